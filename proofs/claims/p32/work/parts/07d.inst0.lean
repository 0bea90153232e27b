theorem s0_0 {l : Launch} {G : KG} : kOpOK l G 0 0 (.inl (g_ald 1 1)) := snd_aload_n dX1_copyFrom_0 rfl
theorem s0_1 {l : Launch} {G : KG} : kOpOK l G 0 1 (.inl (g_gfr 1 0 4)) := snd_gfr (c := 1) (j := 0) (N := 14) dX1_copyFrom_1 rfl hin1 (by decide) rfl (by decide) rfl wF_1_9
theorem s0_4 {l : Launch} {G : KG} : kOpOK l G 0 4 (.inl (g_ald 0 5)) := snd_aload_n dX1_copyFrom_4 rfl
theorem s0_5 {l : Launch} {G : KG} : kOpOK l G 0 5 (.inl (g_gfr 1 0 8)) := snd_gfr (c := 1) (j := 0) (N := 14) dX1_copyFrom_5 rfl hin1 (by decide) rfl (by decide) rfl wF_1_9
theorem s0_8 {l : Launch} {G : KG} : kOpOK l G 0 8 (.inr (.inl (42, 2, 11))) := ⟨snd_callSN (host := RX3) (idx := 44) dX1_copyFrom_8 rfl mok_42 rfl rfl (by decide +kernel) wS_X3_copyRow (by decide) ⟨rfl, rfl⟩, rfl, mok_42, by decide⟩
theorem s0_11 {l : Launch} {G : KG} : kOpOK l G 0 11 (.inl (g_ald 1 12)) := snd_aload_n dX1_copyFrom_11 rfl
theorem s0_12 {l : Launch} {G : KG} : kOpOK l G 0 12 (.inl (g_gfr 1 1 15)) := snd_gfr (c := 1) (j := 1) (N := 14) dX1_copyFrom_12 rfl hin1 (by decide) rfl (by decide) rfl wF_1_15
theorem s0_15 {l : Launch} {G : KG} : kOpOK l G 0 15 (.inl (g_ald 0 16)) := snd_aload_n dX1_copyFrom_15 rfl
theorem s0_16 {l : Launch} {G : KG} : kOpOK l G 0 16 (.inl (g_gfr 1 1 19)) := snd_gfr (c := 1) (j := 1) (N := 14) dX1_copyFrom_16 rfl hin1 (by decide) rfl (by decide) rfl wF_1_15
theorem s0_19 {l : Launch} {G : KG} : kOpOK l G 0 19 (.inr (.inl (42, 2, 22))) := ⟨snd_callSN (host := RX3) (idx := 44) dX1_copyFrom_19 rfl mok_42 rfl rfl (by decide +kernel) wS_X3_copyRow (by decide) ⟨rfl, rfl⟩, rfl, mok_42, by decide⟩
theorem s0_22 {l : Launch} {G : KG} : kOpOK l G 0 22 (.inl (g_push 0 23)) := snd_iconst dX1_copyFrom_22 rfl
theorem s0_23 {l : Launch} {G : KG} : kOpOK l G 0 23 (.inl (g_ist 2 24)) := snd_istore_n dX1_copyFrom_23 rfl
theorem s0_24 {l : Launch} {G : KG} : kOpOK l G 0 24 (.inl (g_ild 2 25)) := snd_iload_n dX1_copyFrom_24 rfl
theorem s0_25 {l : Launch} {G : KG} : kOpOK l G 0 25 (.inl (g_push 6 27)) := snd_bipush dX1_copyFrom_25 rfl
theorem s0_27 {l : Launch} {G : KG} : kOpOK l G 0 27 (.inl (g_br2 (fun x y => decide (y < x)) 51 30)) := snd_icmp_gt dX1_copyFrom_27 (by decide)
theorem s0_30 {l : Launch} {G : KG} : kOpOK l G 0 30 (.inl (g_ald 0 31)) := snd_aload_n dX1_copyFrom_30 rfl
theorem s0_31 {l : Launch} {G : KG} : kOpOK l G 0 31 (.inl (g_gfr 1 2 34)) := snd_gfr (c := 1) (j := 2) (N := 14) dX1_copyFrom_31 rfl hin1 (by decide) rfl (by decide) rfl wF_1_20
theorem s0_34 {l : Launch} {G : KG} : kOpOK l G 0 34 (.inl (g_ild 2 35)) := snd_iload_n dX1_copyFrom_34 rfl
theorem s0_35 {l : Launch} {G : KG} : kOpOK l G 0 35 (.inl (g_aald 9 36)) := snd_aald9 dX1_copyFrom_35
theorem s0_36 {l : Launch} {G : KG} : kOpOK l G 0 36 (.inl (g_ald 1 37)) := snd_aload_n dX1_copyFrom_36 rfl
theorem s0_37 {l : Launch} {G : KG} : kOpOK l G 0 37 (.inl (g_gfr 1 2 40)) := snd_gfr (c := 1) (j := 2) (N := 14) dX1_copyFrom_37 rfl hin1 (by decide) rfl (by decide) rfl wF_1_20
theorem s0_40 {l : Launch} {G : KG} : kOpOK l G 0 40 (.inl (g_ild 2 41)) := snd_iload_n dX1_copyFrom_40 rfl
theorem s0_41 {l : Launch} {G : KG} : kOpOK l G 0 41 (.inl (g_aald 9 42)) := snd_aald9 dX1_copyFrom_41
theorem s0_42 {l : Launch} {G : KG} : kOpOK l G 0 42 (.inr (.inl (11, 2, 45))) := ⟨snd_callV (c := 2) dX1_copyFrom_42 rfl mok_11 rfl rfl rfl rfl (by decide) rfl wM_1_48 wN_X2_copyFrom wL_X2_copyFrom wI_2 (by decide) ⟨rfl, rfl⟩, rfl, mok_11, by decide⟩
theorem s0_45 {l : Launch} {G : KG} : kOpOK l G 0 45 (.inl (g_iinc 2 1 48)) := snd_iinc dX1_copyFrom_45 rfl
theorem s0_48 {l : Launch} {G : KG} : kOpOK l G 0 48 (.inl (g_goto 24)) := snd_goto dX1_copyFrom_48 (by decide)
theorem s0_51 {l : Launch} {G : KG} : kOpOK l G 0 51 (.inl (g_ald 1 52)) := snd_aload_n dX1_copyFrom_51 rfl
theorem s0_52 {l : Launch} {G : KG} : kOpOK l G 0 52 (.inl (g_gfr 1 3 55)) := snd_gfr (c := 1) (j := 3) (N := 14) dX1_copyFrom_52 rfl hin1 (by decide) rfl (by decide) rfl wF_1_24
theorem s0_55 {l : Launch} {G : KG} : kOpOK l G 0 55 (.inl (g_ald 0 56)) := snd_aload_n dX1_copyFrom_55 rfl
theorem s0_56 {l : Launch} {G : KG} : kOpOK l G 0 56 (.inl (g_gfr 1 3 59)) := snd_gfr (c := 1) (j := 3) (N := 14) dX1_copyFrom_56 rfl hin1 (by decide) rfl (by decide) rfl wF_1_24
theorem s0_59 {l : Launch} {G : KG} : kOpOK l G 0 59 (.inr (.inl (42, 2, 62))) := ⟨snd_callSN (host := RX3) (idx := 44) dX1_copyFrom_59 rfl mok_42 rfl rfl (by decide +kernel) wS_X3_copyRow (by decide) ⟨rfl, rfl⟩, rfl, mok_42, by decide⟩
theorem s0_62 {l : Launch} {G : KG} : kOpOK l G 0 62 (.inl (g_ald 1 63)) := snd_aload_n dX1_copyFrom_62 rfl
theorem s0_63 {l : Launch} {G : KG} : kOpOK l G 0 63 (.inl (g_gfr 1 4 66)) := snd_gfr (c := 1) (j := 4) (N := 14) dX1_copyFrom_63 rfl hin1 (by decide) rfl (by decide) rfl wF_1_27
theorem s0_66 {l : Launch} {G : KG} : kOpOK l G 0 66 (.inl (g_ald 0 67)) := snd_aload_n dX1_copyFrom_66 rfl
theorem s0_67 {l : Launch} {G : KG} : kOpOK l G 0 67 (.inl (g_gfr 1 4 70)) := snd_gfr (c := 1) (j := 4) (N := 14) dX1_copyFrom_67 rfl hin1 (by decide) rfl (by decide) rfl wF_1_27
theorem s0_70 {l : Launch} {G : KG} : kOpOK l G 0 70 (.inr (.inl (42, 2, 73))) := ⟨snd_callSN (host := RX3) (idx := 44) dX1_copyFrom_70 rfl mok_42 rfl rfl (by decide +kernel) wS_X3_copyRow (by decide) ⟨rfl, rfl⟩, rfl, mok_42, by decide⟩
theorem s0_73 {l : Launch} {G : KG} : kOpOK l G 0 73 (.inl (g_ald 0 74)) := snd_aload_n dX1_copyFrom_73 rfl
theorem s0_74 {l : Launch} {G : KG} : kOpOK l G 0 74 (.inl (g_ald 1 75)) := snd_aload_n dX1_copyFrom_74 rfl
theorem s0_75 {l : Launch} {G : KG} : kOpOK l G 0 75 (.inl (g_gfi 1 5 78)) := snd_gfi (c := 1) (j := 5) (N := 14) dX1_copyFrom_75 rfl hin1 (by decide) rfl (by decide) rfl wF_1_52
theorem s0_78 {l : Launch} {G : KG} : kOpOK l G 0 78 (.inl (g_pfi 1 5 81)) := snd_pfi (c := 1) (j := 5) (N := 14) dX1_copyFrom_78 rfl hin1 (by decide) rfl (by decide) rfl wF_1_52 tyX1 tyX1_ok nmX1 rfl (by decide +kernel)
theorem s0_81 {l : Launch} {G : KG} : kOpOK l G 0 81 (.inl (g_ald 0 82)) := snd_aload_n dX1_copyFrom_81 rfl
theorem s0_82 {l : Launch} {G : KG} : kOpOK l G 0 82 (.inl (g_ald 1 83)) := snd_aload_n dX1_copyFrom_82 rfl
theorem s0_83 {l : Launch} {G : KG} : kOpOK l G 0 83 (.inl (g_gfi 1 6 86)) := snd_gfi (c := 1) (j := 6) (N := 14) dX1_copyFrom_83 rfl hin1 (by decide) rfl (by decide) rfl wF_1_30
theorem s0_86 {l : Launch} {G : KG} : kOpOK l G 0 86 (.inl (g_pfi 1 6 89)) := snd_pfi (c := 1) (j := 6) (N := 14) dX1_copyFrom_86 rfl hin1 (by decide) rfl (by decide) rfl wF_1_30 tyX1 tyX1_ok nmX1 rfl (by decide +kernel)
theorem s0_89 {l : Launch} {G : KG} : kOpOK l G 0 89 (.inl (g_ald 0 90)) := snd_aload_n dX1_copyFrom_89 rfl
theorem s0_90 {l : Launch} {G : KG} : kOpOK l G 0 90 (.inl (g_ald 1 91)) := snd_aload_n dX1_copyFrom_90 rfl
theorem s0_91 {l : Launch} {G : KG} : kOpOK l G 0 91 (.inl (g_gfi 1 7 94)) := snd_gfi (c := 1) (j := 7) (N := 14) dX1_copyFrom_91 rfl hin1 (by decide) rfl (by decide) rfl wF_1_34
theorem s0_94 {l : Launch} {G : KG} : kOpOK l G 0 94 (.inl (g_pfi 1 7 97)) := snd_pfi (c := 1) (j := 7) (N := 14) dX1_copyFrom_94 rfl hin1 (by decide) rfl (by decide) rfl wF_1_34 tyX1 tyX1_ok nmX1 rfl (by decide +kernel)
theorem s0_97 {l : Launch} {G : KG} : kOpOK l G 0 97 (.inl (g_ald 0 98)) := snd_aload_n dX1_copyFrom_97 rfl
theorem s0_98 {l : Launch} {G : KG} : kOpOK l G 0 98 (.inl (g_ald 1 99)) := snd_aload_n dX1_copyFrom_98 rfl
theorem s0_99 {l : Launch} {G : KG} : kOpOK l G 0 99 (.inl (g_gfi 1 8 102)) := snd_gfi (c := 1) (j := 8) (N := 14) dX1_copyFrom_99 rfl hin1 (by decide) rfl (by decide) rfl wF_1_37
theorem s0_102 {l : Launch} {G : KG} : kOpOK l G 0 102 (.inl (g_pfi 1 8 105)) := snd_pfi (c := 1) (j := 8) (N := 14) dX1_copyFrom_102 rfl hin1 (by decide) rfl (by decide) rfl wF_1_37 tyX1 tyX1_ok nmX1 rfl (by decide +kernel)
theorem s0_105 {l : Launch} {G : KG} : kOpOK l G 0 105 (.inl (g_ald 0 106)) := snd_aload_n dX1_copyFrom_105 rfl
theorem s0_106 {l : Launch} {G : KG} : kOpOK l G 0 106 (.inl (g_ald 1 107)) := snd_aload_n dX1_copyFrom_106 rfl
theorem s0_107 {l : Launch} {G : KG} : kOpOK l G 0 107 (.inl (g_gfi 1 9 110)) := snd_gfi (c := 1) (j := 9) (N := 14) dX1_copyFrom_107 rfl hin1 (by decide) rfl (by decide) rfl wF_1_40
theorem s0_110 {l : Launch} {G : KG} : kOpOK l G 0 110 (.inl (g_pfi 1 9 113)) := snd_pfi (c := 1) (j := 9) (N := 14) dX1_copyFrom_110 rfl hin1 (by decide) rfl (by decide) rfl wF_1_40 tyX1 tyX1_ok nmX1 rfl (by decide +kernel)
theorem s0_113 {l : Launch} {G : KG} : kOpOK l G 0 113 (.inl (g_ald 0 114)) := snd_aload_n dX1_copyFrom_113 rfl
theorem s0_114 {l : Launch} {G : KG} : kOpOK l G 0 114 (.inl (g_ald 1 115)) := snd_aload_n dX1_copyFrom_114 rfl
theorem s0_115 {l : Launch} {G : KG} : kOpOK l G 0 115 (.inl (g_gfi 1 10 118)) := snd_gfi (c := 1) (j := 10) (N := 14) dX1_copyFrom_115 rfl hin1 (by decide) rfl (by decide) rfl wF_1_55
theorem s0_118 {l : Launch} {G : KG} : kOpOK l G 0 118 (.inl (g_pfz 1 10 121)) := snd_pfz (c := 1) (j := 10) (N := 14) dX1_copyFrom_118 rfl hin1 (by decide) rfl (by decide) rfl wF_1_55 tyX1 tyX1_ok nmX1 rfl (by decide +kernel)
theorem s0_121 {l : Launch} {G : KG} : kOpOK l G 0 121 (.inl (g_ald 0 122)) := snd_aload_n dX1_copyFrom_121 rfl
theorem s0_122 {l : Launch} {G : KG} : kOpOK l G 0 122 (.inl (g_ald 1 123)) := snd_aload_n dX1_copyFrom_122 rfl
theorem s0_123 {l : Launch} {G : KG} : kOpOK l G 0 123 (.inl (g_gfi 1 11 126)) := snd_gfi (c := 1) (j := 11) (N := 14) dX1_copyFrom_123 rfl hin1 (by decide) rfl (by decide) rfl wF_1_59
theorem s0_126 {l : Launch} {G : KG} : kOpOK l G 0 126 (.inl (g_pfi 1 11 129)) := snd_pfi (c := 1) (j := 11) (N := 14) dX1_copyFrom_126 rfl hin1 (by decide) rfl (by decide) rfl wF_1_59 tyX1 tyX1_ok nmX1 rfl (by decide +kernel)
theorem s0_129 {l : Launch} {G : KG} : kOpOK l G 0 129 (.inl (g_ald 0 130)) := snd_aload_n dX1_copyFrom_129 rfl
theorem s0_130 {l : Launch} {G : KG} : kOpOK l G 0 130 (.inl (g_ald 1 131)) := snd_aload_n dX1_copyFrom_130 rfl
theorem s0_131 {l : Launch} {G : KG} : kOpOK l G 0 131 (.inl (g_gfi 1 12 134)) := snd_gfi (c := 1) (j := 12) (N := 14) dX1_copyFrom_131 rfl hin1 (by decide) rfl (by decide) rfl wF_1_62
theorem s0_134 {l : Launch} {G : KG} : kOpOK l G 0 134 (.inl (g_pfi 1 12 137)) := snd_pfi (c := 1) (j := 12) (N := 14) dX1_copyFrom_134 rfl hin1 (by decide) rfl (by decide) rfl wF_1_62 tyX1 tyX1_ok nmX1 rfl (by decide +kernel)
theorem s0_137 {l : Launch} {G : KG} : kOpOK l G 0 137 (.inl (g_ald 0 138)) := snd_aload_n dX1_copyFrom_137 rfl
theorem s0_138 {l : Launch} {G : KG} : kOpOK l G 0 138 (.inl (g_ald 1 139)) := snd_aload_n dX1_copyFrom_138 rfl
theorem s0_139 {l : Launch} {G : KG} : kOpOK l G 0 139 (.inl (g_gfi 1 13 142)) := snd_gfi (c := 1) (j := 13) (N := 14) dX1_copyFrom_139 rfl hin1 (by decide) rfl (by decide) rfl wF_1_65
theorem s0_142 {l : Launch} {G : KG} : kOpOK l G 0 142 (.inl (g_pfi 1 13 145)) := snd_pfi (c := 1) (j := 13) (N := 14) dX1_copyFrom_142 rfl hin1 (by decide) rfl (by decide) rfl wF_1_65 tyX1 tyX1_ok nmX1 rfl (by decide +kernel)
theorem s0_145 {l : Launch} {G : KG} : kOpOK l G 0 145 (.inr (.inr 0)) := ⟨rfl, Or.inl ⟨rfl, dX1_copyFrom_145, rfl⟩⟩
theorem s1_0 {l : Launch} {G : KG} : kOpOK l G 1 0 (.inl (g_ild 1 1)) := snd_iload_n dX1_isTray_0 rfl
theorem s1_1 {l : Launch} {G : KG} : kOpOK l G 1 1 (.inl (g_push 0 2)) := snd_iconst dX1_isTray_1 rfl
theorem s1_2 {l : Launch} {G : KG} : kOpOK l G 1 2 (.inl (g_ald 0 3)) := snd_aload_n dX1_isTray_2 rfl
theorem s1_3 {l : Launch} {G : KG} : kOpOK l G 1 3 (.inl (g_gfi 1 5 6)) := snd_gfi (c := 1) (j := 5) (N := 14) dX1_isTray_3 rfl hin1 (by decide) rfl (by decide) rfl wF_1_52
theorem s1_6 {l : Launch} {G : KG} : kOpOK l G 1 6 (.inr (.inl (37, 3, 9))) := ⟨snd_callSN (host := RX3) (idx := 68) dX1_isTray_6 rfl mok_37 rfl rfl (by decide +kernel) wS_X3_isIn (by decide) ⟨rfl, rfl⟩, rfl, mok_37, by decide⟩
theorem s1_9 {l : Launch} {G : KG} : kOpOK l G 1 9 (.inr (.inr 2)) := ⟨rfl, Or.inr (Or.inr (Or.inl ⟨rfl, dX1_isTray_9, rfl⟩))⟩
theorem s2_0 {l : Launch} {G : KG} : kOpOK l G 2 0 (.inl (g_ild 1 1)) := snd_iload_n dX1_isSieve_0 rfl
theorem s2_1 {l : Launch} {G : KG} : kOpOK l G 2 1 (.inl (g_push 0 2)) := snd_iconst dX1_isSieve_1 rfl
theorem s2_2 {l : Launch} {G : KG} : kOpOK l G 2 2 (.inl (g_ald 0 3)) := snd_aload_n dX1_isSieve_2 rfl
theorem s2_3 {l : Launch} {G : KG} : kOpOK l G 2 3 (.inl (g_gfi 1 5 6)) := snd_gfi (c := 1) (j := 5) (N := 14) dX1_isSieve_3 rfl hin1 (by decide) rfl (by decide) rfl wF_1_52
theorem s2_6 {l : Launch} {G : KG} : kOpOK l G 2 6 (.inl (g_push 1 7)) := snd_iconst dX1_isSieve_6 rfl
theorem s2_7 {l : Launch} {G : KG} : kOpOK l G 2 7 (.inl (g_iop (fun x y => x - y) 8)) := snd_isub dX1_isSieve_7
theorem s2_8 {l : Launch} {G : KG} : kOpOK l G 2 8 (.inr (.inl (37, 3, 11))) := ⟨snd_callSN (host := RX3) (idx := 68) dX1_isSieve_8 rfl mok_37 rfl rfl (by decide +kernel) wS_X3_isIn (by decide) ⟨rfl, rfl⟩, rfl, mok_37, by decide⟩
theorem s2_11 {l : Launch} {G : KG} : kOpOK l G 2 11 (.inr (.inr 2)) := ⟨rfl, Or.inr (Or.inr (Or.inl ⟨rfl, dX1_isSieve_11, rfl⟩))⟩
theorem s3_0 {l : Launch} {G : KG} : kOpOK l G 3 0 (.inl (g_push 1 1)) := snd_iconst dX1_halveSample_0 rfl
theorem s3_1 {l : Launch} {G : KG} : kOpOK l G 3 1 (.inl (g_ist 2 2)) := snd_istore_n dX1_halveSample_1 rfl
theorem s3_2 {l : Launch} {G : KG} : kOpOK l G 3 2 (.inl (g_push 0 3)) := snd_iconst dX1_halveSample_2 rfl
theorem s3_3 {l : Launch} {G : KG} : kOpOK l G 3 3 (.inl (g_ist 3 4)) := snd_istore_n dX1_halveSample_3 rfl
theorem s3_4 {l : Launch} {G : KG} : kOpOK l G 3 4 (.inl (g_ild 3 5)) := snd_iload_n dX1_halveSample_4 rfl
theorem s3_5 {l : Launch} {G : KG} : kOpOK l G 3 5 (.inl (g_push 10 7)) := snd_bipush dX1_halveSample_5 rfl
theorem s3_7 {l : Launch} {G : KG} : kOpOK l G 3 7 (.inl (g_br2 (fun x y => decide (y ≤ x)) 116 10)) := snd_icmp_ge dX1_halveSample_7 (by decide)
theorem s3_10 {l : Launch} {G : KG} : kOpOK l G 3 10 (.inl (g_ald 0 11)) := snd_aload_n dX1_halveSample_10 rfl
theorem s3_11 {l : Launch} {G : KG} : kOpOK l G 3 11 (.inl (g_gfr 1 0 14)) := snd_gfr (c := 1) (j := 0) (N := 14) dX1_halveSample_11 rfl hin1 (by decide) rfl (by decide) rfl wF_1_9
theorem s3_14 {l : Launch} {G : KG} : kOpOK l G 3 14 (.inl (g_ild 3 15)) := snd_iload_n dX1_halveSample_14 rfl
theorem s3_15 {l : Launch} {G : KG} : kOpOK l G 3 15 (.inl (g_pald 5 16)) := snd_pald5 dX1_halveSample_15
theorem s3_16 {l : Launch} {G : KG} : kOpOK l G 3 16 (.inl (g_push 2 17)) := snd_iconst dX1_halveSample_16 rfl
theorem s3_17 {l : Launch} {G : KG} : kOpOK l G 3 17 (.inl (g_idiv (fun x y => x / y) 18)) := snd_idiv dX1_halveSample_17
theorem s3_18 {l : Launch} {G : KG} : kOpOK l G 3 18 (.inl (g_ist 4 20)) := snd_istore dX1_halveSample_18
theorem s3_20 {l : Launch} {G : KG} : kOpOK l G 3 20 (.inl (g_ild 4 22)) := snd_iload dX1_halveSample_20
theorem s3_22 {l : Launch} {G : KG} : kOpOK l G 3 22 (.inl (g_ist 5 24)) := snd_istore dX1_halveSample_22
theorem s3_24 {l : Launch} {G : KG} : kOpOK l G 3 24 (.inl (g_ald 0 25)) := snd_aload_n dX1_halveSample_24 rfl
theorem s3_25 {l : Launch} {G : KG} : kOpOK l G 3 25 (.inl (g_gfr 1 0 28)) := snd_gfr (c := 1) (j := 0) (N := 14) dX1_halveSample_25 rfl hin1 (by decide) rfl (by decide) rfl wF_1_9
theorem s3_28 {l : Launch} {G : KG} : kOpOK l G 3 28 (.inl (g_ild 3 29)) := snd_iload_n dX1_halveSample_28 rfl
theorem s3_29 {l : Launch} {G : KG} : kOpOK l G 3 29 (.inl (g_pald 5 30)) := snd_pald5 dX1_halveSample_29
theorem s3_30 {l : Launch} {G : KG} : kOpOK l G 3 30 (.inl (g_push 2 31)) := snd_iconst dX1_halveSample_30 rfl
theorem s3_31 {l : Launch} {G : KG} : kOpOK l G 3 31 (.inl (g_idiv k_irem 32)) := snd_irem dX1_halveSample_31
theorem s3_32 {l : Launch} {G : KG} : kOpOK l G 3 32 (.inl (g_br1 (fun x => decide (x = 0)) 73 35)) := snd_if_eq dX1_halveSample_32 (by decide)
theorem s3_35 {l : Launch} {G : KG} : kOpOK l G 3 35 (.inl (g_ild 4 37)) := snd_iload dX1_halveSample_35
theorem s3_37 {l : Launch} {G : KG} : kOpOK l G 3 37 (.inl (g_ild 2 38)) := snd_iload_n dX1_halveSample_37 rfl
theorem s3_38 {l : Launch} {G : KG} : kOpOK l G 3 38 (.inl (g_br1 (fun x => decide (x = 0)) 45 41)) := snd_if_eq dX1_halveSample_38 (by decide)
theorem s3_41 {l : Launch} {G : KG} : kOpOK l G 3 41 (.inl (g_push 1 42)) := snd_iconst dX1_halveSample_41 rfl
theorem s3_42 {l : Launch} {G : KG} : kOpOK l G 3 42 (.inl (g_goto 46)) := snd_goto dX1_halveSample_42 (by decide)
theorem s3_45 {l : Launch} {G : KG} : kOpOK l G 3 45 (.inl (g_push 0 46)) := snd_iconst dX1_halveSample_45 rfl
theorem s3_46 {l : Launch} {G : KG} : kOpOK l G 3 46 (.inl (g_iop (fun x y => x + y) 47)) := snd_iadd dX1_halveSample_46
theorem s3_47 {l : Launch} {G : KG} : kOpOK l G 3 47 (.inl (g_ist 4 49)) := snd_istore dX1_halveSample_47
theorem s3_49 {l : Launch} {G : KG} : kOpOK l G 3 49 (.inl (g_ild 5 51)) := snd_iload dX1_halveSample_49
theorem s3_51 {l : Launch} {G : KG} : kOpOK l G 3 51 (.inl (g_ild 2 52)) := snd_iload_n dX1_halveSample_51 rfl
theorem s3_52 {l : Launch} {G : KG} : kOpOK l G 3 52 (.inl (g_br1 (fun x => decide (x = 0)) 59 55)) := snd_if_eq dX1_halveSample_52 (by decide)
theorem s3_55 {l : Launch} {G : KG} : kOpOK l G 3 55 (.inl (g_push 0 56)) := snd_iconst dX1_halveSample_55 rfl
theorem s3_56 {l : Launch} {G : KG} : kOpOK l G 3 56 (.inl (g_goto 60)) := snd_goto dX1_halveSample_56 (by decide)
theorem s3_59 {l : Launch} {G : KG} : kOpOK l G 3 59 (.inl (g_push 1 60)) := snd_iconst dX1_halveSample_59 rfl
theorem s3_60 {l : Launch} {G : KG} : kOpOK l G 3 60 (.inl (g_iop (fun x y => x + y) 61)) := snd_iadd dX1_halveSample_60
theorem s3_61 {l : Launch} {G : KG} : kOpOK l G 3 61 (.inl (g_ist 5 63)) := snd_istore dX1_halveSample_61
theorem s3_63 {l : Launch} {G : KG} : kOpOK l G 3 63 (.inl (g_ild 2 64)) := snd_iload_n dX1_halveSample_63 rfl
theorem s3_64 {l : Launch} {G : KG} : kOpOK l G 3 64 (.inl (g_br1 (fun x => decide (¬ x = 0)) 71 67)) := snd_if_ne dX1_halveSample_64 (by decide)
theorem s3_67 {l : Launch} {G : KG} : kOpOK l G 3 67 (.inl (g_push 1 68)) := snd_iconst dX1_halveSample_67 rfl
theorem s3_68 {l : Launch} {G : KG} : kOpOK l G 3 68 (.inl (g_goto 72)) := snd_goto dX1_halveSample_68 (by decide)
theorem s3_71 {l : Launch} {G : KG} : kOpOK l G 3 71 (.inl (g_push 0 72)) := snd_iconst dX1_halveSample_71 rfl
theorem s3_72 {l : Launch} {G : KG} : kOpOK l G 3 72 (.inl (g_ist 2 73)) := snd_istore_n dX1_halveSample_72 rfl
theorem s3_73 {l : Launch} {G : KG} : kOpOK l G 3 73 (.inl (g_ald 0 74)) := snd_aload_n dX1_halveSample_73 rfl
theorem s3_74 {l : Launch} {G : KG} : kOpOK l G 3 74 (.inl (g_gfr 1 0 77)) := snd_gfr (c := 1) (j := 0) (N := 14) dX1_halveSample_74 rfl hin1 (by decide) rfl (by decide) rfl wF_1_9
theorem s3_77 {l : Launch} {G : KG} : kOpOK l G 3 77 (.inl (g_ild 3 78)) := snd_iload_n dX1_halveSample_77 rfl
theorem s3_78 {l : Launch} {G : KG} : kOpOK l G 3 78 (.inl (g_ild 1 79)) := snd_iload_n dX1_halveSample_78 rfl
theorem s3_79 {l : Launch} {G : KG} : kOpOK l G 3 79 (.inl (g_br1 (fun x => decide (x = 0)) 87 82)) := snd_if_eq dX1_halveSample_79 (by decide)
theorem s3_82 {l : Launch} {G : KG} : kOpOK l G 3 82 (.inl (g_ild 4 84)) := snd_iload dX1_halveSample_82
theorem s3_84 {l : Launch} {G : KG} : kOpOK l G 3 84 (.inl (g_goto 89)) := snd_goto dX1_halveSample_84 (by decide)
theorem s3_87 {l : Launch} {G : KG} : kOpOK l G 3 87 (.inl (g_ild 5 89)) := snd_iload dX1_halveSample_87
theorem s3_89 {l : Launch} {G : KG} : kOpOK l G 3 89 (.inl (g_past 5 90)) := snd_past5 dX1_halveSample_89
theorem s3_90 {l : Launch} {G : KG} : kOpOK l G 3 90 (.inl (g_ald 0 91)) := snd_aload_n dX1_halveSample_90 rfl
theorem s3_91 {l : Launch} {G : KG} : kOpOK l G 3 91 (.inl (g_gfr 1 1 94)) := snd_gfr (c := 1) (j := 1) (N := 14) dX1_halveSample_91 rfl hin1 (by decide) rfl (by decide) rfl wF_1_15
theorem s3_94 {l : Launch} {G : KG} : kOpOK l G 3 94 (.inl (g_ild 3 95)) := snd_iload_n dX1_halveSample_94 rfl
theorem s3_95 {l : Launch} {G : KG} : kOpOK l G 3 95 (.inl (g_dup2 96)) := snd_dup2 dX1_halveSample_95
theorem s3_96 {l : Launch} {G : KG} : kOpOK l G 3 96 (.inl (g_pald 5 97)) := snd_pald5 dX1_halveSample_96
theorem s3_97 {l : Launch} {G : KG} : kOpOK l G 3 97 (.inl (g_ild 1 98)) := snd_iload_n dX1_halveSample_97 rfl
theorem s3_98 {l : Launch} {G : KG} : kOpOK l G 3 98 (.inl (g_br1 (fun x => decide (x = 0)) 106 101)) := snd_if_eq dX1_halveSample_98 (by decide)
theorem s3_101 {l : Launch} {G : KG} : kOpOK l G 3 101 (.inl (g_ild 5 103)) := snd_iload dX1_halveSample_101
theorem s3_103 {l : Launch} {G : KG} : kOpOK l G 3 103 (.inl (g_goto 108)) := snd_goto dX1_halveSample_103 (by decide)
theorem s3_106 {l : Launch} {G : KG} : kOpOK l G 3 106 (.inl (g_ild 4 108)) := snd_iload dX1_halveSample_106
theorem s3_108 {l : Launch} {G : KG} : kOpOK l G 3 108 (.inl (g_iop (fun x y => x + y) 109)) := snd_iadd dX1_halveSample_108
theorem s3_109 {l : Launch} {G : KG} : kOpOK l G 3 109 (.inl (g_past 5 110)) := snd_past5 dX1_halveSample_109
theorem s3_110 {l : Launch} {G : KG} : kOpOK l G 3 110 (.inl (g_iinc 3 1 113)) := snd_iinc dX1_halveSample_110 rfl
theorem s3_113 {l : Launch} {G : KG} : kOpOK l G 3 113 (.inl (g_goto 4)) := snd_goto dX1_halveSample_113 (by decide)
theorem s3_116 {l : Launch} {G : KG} : kOpOK l G 3 116 (.inr (.inr 0)) := ⟨rfl, Or.inl ⟨rfl, dX1_halveSample_116, rfl⟩⟩
theorem s4_0 {l : Launch} {G : KG} : kOpOK l G 4 0 (.inl (g_push 0 1)) := snd_iconst dX1_findSieve_0 rfl
theorem s4_1 {l : Launch} {G : KG} : kOpOK l G 4 1 (.inl (g_ist 2 2)) := snd_istore_n dX1_findSieve_1 rfl
theorem s4_2 {l : Launch} {G : KG} : kOpOK l G 4 2 (.inl (g_ild 2 3)) := snd_iload_n dX1_findSieve_2 rfl
theorem s4_3 {l : Launch} {G : KG} : kOpOK l G 4 3 (.inl (g_ald 0 4)) := snd_aload_n dX1_findSieve_3 rfl
theorem s4_4 {l : Launch} {G : KG} : kOpOK l G 4 4 (.inl (g_gfi 1 5 7)) := snd_gfi (c := 1) (j := 5) (N := 14) dX1_findSieve_4 rfl hin1 (by decide) rfl (by decide) rfl wF_1_52
theorem s4_7 {l : Launch} {G : KG} : kOpOK l G 4 7 (.inl (g_br2 (fun x y => decide (y ≤ x)) 31 10)) := snd_icmp_ge dX1_findSieve_7 (by decide)
theorem s4_10 {l : Launch} {G : KG} : kOpOK l G 4 10 (.inl (g_ald 0 11)) := snd_aload_n dX1_findSieve_10 rfl
theorem s4_11 {l : Launch} {G : KG} : kOpOK l G 4 11 (.inl (g_gfr 1 2 14)) := snd_gfr (c := 1) (j := 2) (N := 14) dX1_findSieve_11 rfl hin1 (by decide) rfl (by decide) rfl wF_1_20
theorem s4_14 {l : Launch} {G : KG} : kOpOK l G 4 14 (.inl (g_ild 2 15)) := snd_iload_n dX1_findSieve_14 rfl
theorem s4_15 {l : Launch} {G : KG} : kOpOK l G 4 15 (.inl (g_aald 9 16)) := snd_aald9 dX1_findSieve_15
theorem s4_16 {l : Launch} {G : KG} : kOpOK l G 4 16 (.inl (g_gfi 2 1 19)) := snd_gfi (c := 2) (j := 1) (N := 4) dX1_findSieve_16 rfl hin2 (by decide) rfl (by decide) rfl wF_1_72
theorem s4_19 {l : Launch} {G : KG} : kOpOK l G 4 19 (.inl (g_ild 1 20)) := snd_iload_n dX1_findSieve_19 rfl
theorem s4_20 {l : Launch} {G : KG} : kOpOK l G 4 20 (.inl (g_br2 (fun x y => decide (¬ x = y)) 25 23)) := snd_icmp_ne dX1_findSieve_20 (by decide)
theorem s4_23 {l : Launch} {G : KG} : kOpOK l G 4 23 (.inl (g_ild 2 24)) := snd_iload_n dX1_findSieve_23 rfl
theorem s4_24 {l : Launch} {G : KG} : kOpOK l G 4 24 (.inr (.inr 1)) := ⟨rfl, Or.inr (Or.inl ⟨rfl, dX1_findSieve_24, rfl⟩)⟩
theorem s4_25 {l : Launch} {G : KG} : kOpOK l G 4 25 (.inl (g_iinc 2 1 28)) := snd_iinc dX1_findSieve_25 rfl
theorem s4_28 {l : Launch} {G : KG} : kOpOK l G 4 28 (.inl (g_goto 2)) := snd_goto dX1_findSieve_28 (by decide)
theorem s4_31 {l : Launch} {G : KG} : kOpOK l G 4 31 (.inl (g_push (-9) 33)) := snd_bipush dX1_findSieve_31 rfl
theorem s4_33 {l : Launch} {G : KG} : kOpOK l G 4 33 (.inr (.inr 1)) := ⟨rfl, Or.inr (Or.inl ⟨rfl, dX1_findSieve_33, rfl⟩)⟩
theorem s5_0 {l : Launch} {G : KG} : kOpOK l G 5 0 (.inl (g_ald 0 1)) := snd_aload_n dX1_insertSieve_0 rfl
theorem s5_1 {l : Launch} {G : KG} : kOpOK l G 5 1 (.inl (g_gfi 1 5 4)) := snd_gfi (c := 1) (j := 5) (N := 14) dX1_insertSieve_1 rfl hin1 (by decide) rfl (by decide) rfl wF_1_52
theorem s5_4 {l : Launch} {G : KG} : kOpOK l G 5 4 (.inl (g_ist 2 5)) := snd_istore_n dX1_insertSieve_4 rfl
theorem s5_5 {l : Launch} {G : KG} : kOpOK l G 5 5 (.inl (g_ild 2 6)) := snd_iload_n dX1_insertSieve_5 rfl
theorem s5_6 {l : Launch} {G : KG} : kOpOK l G 5 6 (.inl (g_br1 (fun x => decide (x ≤ 0)) 50 9)) := snd_if_le dX1_insertSieve_6 (by decide)
theorem s5_9 {l : Launch} {G : KG} : kOpOK l G 5 9 (.inl (g_ald 0 10)) := snd_aload_n dX1_insertSieve_9 rfl
theorem s5_10 {l : Launch} {G : KG} : kOpOK l G 5 10 (.inl (g_gfr 1 2 13)) := snd_gfr (c := 1) (j := 2) (N := 14) dX1_insertSieve_10 rfl hin1 (by decide) rfl (by decide) rfl wF_1_20
theorem s5_13 {l : Launch} {G : KG} : kOpOK l G 5 13 (.inl (g_ild 2 14)) := snd_iload_n dX1_insertSieve_13 rfl
theorem s5_14 {l : Launch} {G : KG} : kOpOK l G 5 14 (.inl (g_push 1 15)) := snd_iconst dX1_insertSieve_14 rfl
theorem s5_15 {l : Launch} {G : KG} : kOpOK l G 5 15 (.inl (g_iop (fun x y => x - y) 16)) := snd_isub dX1_insertSieve_15
theorem s5_16 {l : Launch} {G : KG} : kOpOK l G 5 16 (.inl (g_aald 9 17)) := snd_aald9 dX1_insertSieve_16
theorem s5_17 {l : Launch} {G : KG} : kOpOK l G 5 17 (.inl (g_gfi 2 1 20)) := snd_gfi (c := 2) (j := 1) (N := 4) dX1_insertSieve_17 rfl hin2 (by decide) rfl (by decide) rfl wF_1_72
theorem s5_20 {l : Launch} {G : KG} : kOpOK l G 5 20 (.inl (g_ild 1 21)) := snd_iload_n dX1_insertSieve_20 rfl
theorem s5_21 {l : Launch} {G : KG} : kOpOK l G 5 21 (.inl (g_br2 (fun x y => decide (y ≤ x)) 50 24)) := snd_icmp_ge dX1_insertSieve_21 (by decide)
theorem s5_24 {l : Launch} {G : KG} : kOpOK l G 5 24 (.inl (g_ald 0 25)) := snd_aload_n dX1_insertSieve_24 rfl
theorem s5_25 {l : Launch} {G : KG} : kOpOK l G 5 25 (.inl (g_gfr 1 2 28)) := snd_gfr (c := 1) (j := 2) (N := 14) dX1_insertSieve_25 rfl hin1 (by decide) rfl (by decide) rfl wF_1_20
theorem s5_28 {l : Launch} {G : KG} : kOpOK l G 5 28 (.inl (g_ild 2 29)) := snd_iload_n dX1_insertSieve_28 rfl
theorem s5_29 {l : Launch} {G : KG} : kOpOK l G 5 29 (.inl (g_aald 9 30)) := snd_aald9 dX1_insertSieve_29
theorem s5_30 {l : Launch} {G : KG} : kOpOK l G 5 30 (.inl (g_ald 0 31)) := snd_aload_n dX1_insertSieve_30 rfl
theorem s5_31 {l : Launch} {G : KG} : kOpOK l G 5 31 (.inl (g_gfr 1 2 34)) := snd_gfr (c := 1) (j := 2) (N := 14) dX1_insertSieve_31 rfl hin1 (by decide) rfl (by decide) rfl wF_1_20
theorem s5_34 {l : Launch} {G : KG} : kOpOK l G 5 34 (.inl (g_ild 2 35)) := snd_iload_n dX1_insertSieve_34 rfl
theorem s5_35 {l : Launch} {G : KG} : kOpOK l G 5 35 (.inl (g_push 1 36)) := snd_iconst dX1_insertSieve_35 rfl
theorem s5_36 {l : Launch} {G : KG} : kOpOK l G 5 36 (.inl (g_iop (fun x y => x - y) 37)) := snd_isub dX1_insertSieve_36
theorem s5_37 {l : Launch} {G : KG} : kOpOK l G 5 37 (.inl (g_aald 9 38)) := snd_aald9 dX1_insertSieve_37
theorem s5_38 {l : Launch} {G : KG} : kOpOK l G 5 38 (.inl (g_gfi 2 1 41)) := snd_gfi (c := 2) (j := 1) (N := 4) dX1_insertSieve_38 rfl hin2 (by decide) rfl (by decide) rfl wF_1_72
theorem s5_41 {l : Launch} {G : KG} : kOpOK l G 5 41 (.inl (g_pfi 2 1 44)) := snd_pfi (c := 2) (j := 1) (N := 4) dX1_insertSieve_41 rfl hin2 (by decide) rfl (by decide) rfl wF_1_72 tyX2 tyX2_ok nmX2 rfl (by decide +kernel)
theorem s5_44 {l : Launch} {G : KG} : kOpOK l G 5 44 (.inl (g_iinc 2 (-1) 47)) := snd_iinc dX1_insertSieve_44 rfl
theorem s5_47 {l : Launch} {G : KG} : kOpOK l G 5 47 (.inl (g_goto 5)) := snd_goto dX1_insertSieve_47 (by decide)
theorem s5_50 {l : Launch} {G : KG} : kOpOK l G 5 50 (.inl (g_ald 0 51)) := snd_aload_n dX1_insertSieve_50 rfl
theorem s5_51 {l : Launch} {G : KG} : kOpOK l G 5 51 (.inl (g_gfr 1 2 54)) := snd_gfr (c := 1) (j := 2) (N := 14) dX1_insertSieve_51 rfl hin1 (by decide) rfl (by decide) rfl wF_1_20
theorem s5_54 {l : Launch} {G : KG} : kOpOK l G 5 54 (.inl (g_ild 2 55)) := snd_iload_n dX1_insertSieve_54 rfl
theorem s5_55 {l : Launch} {G : KG} : kOpOK l G 5 55 (.inl (g_aald 9 56)) := snd_aald9 dX1_insertSieve_55
theorem s5_56 {l : Launch} {G : KG} : kOpOK l G 5 56 (.inl (g_ild 1 57)) := snd_iload_n dX1_insertSieve_56 rfl
theorem s5_57 {l : Launch} {G : KG} : kOpOK l G 5 57 (.inl (g_pfi 2 1 60)) := snd_pfi (c := 2) (j := 1) (N := 4) dX1_insertSieve_57 rfl hin2 (by decide) rfl (by decide) rfl wF_1_72 tyX2 tyX2_ok nmX2 rfl (by decide +kernel)
theorem s5_60 {l : Launch} {G : KG} : kOpOK l G 5 60 (.inl (g_ald 0 61)) := snd_aload_n dX1_insertSieve_60 rfl
theorem s5_61 {l : Launch} {G : KG} : kOpOK l G 5 61 (.inl (g_dup 62)) := snd_dup dX1_insertSieve_61
theorem s5_62 {l : Launch} {G : KG} : kOpOK l G 5 62 (.inl (g_gfi 1 5 65)) := snd_gfi (c := 1) (j := 5) (N := 14) dX1_insertSieve_62 rfl hin1 (by decide) rfl (by decide) rfl wF_1_52
theorem s5_65 {l : Launch} {G : KG} : kOpOK l G 5 65 (.inl (g_push 1 66)) := snd_iconst dX1_insertSieve_65 rfl
theorem s5_66 {l : Launch} {G : KG} : kOpOK l G 5 66 (.inl (g_iop (fun x y => x + y) 67)) := snd_iadd dX1_insertSieve_66
theorem s5_67 {l : Launch} {G : KG} : kOpOK l G 5 67 (.inl (g_pfi 1 5 70)) := snd_pfi (c := 1) (j := 5) (N := 14) dX1_insertSieve_67 rfl hin1 (by decide) rfl (by decide) rfl wF_1_52 tyX1 tyX1_ok nmX1 rfl (by decide +kernel)
theorem s5_70 {l : Launch} {G : KG} : kOpOK l G 5 70 (.inl (g_ild 2 71)) := snd_iload_n dX1_insertSieve_70 rfl
theorem s5_71 {l : Launch} {G : KG} : kOpOK l G 5 71 (.inr (.inr 1)) := ⟨rfl, Or.inr (Or.inl ⟨rfl, dX1_insertSieve_71, rfl⟩)⟩
theorem s6_0 {l : Launch} {G : KG} : kOpOK l G 6 0 (.inl (g_ild 1 1)) := snd_iload_n dX1_takeSieve_0 rfl
theorem s6_1 {l : Launch} {G : KG} : kOpOK l G 6 1 (.inl (g_ist 2 2)) := snd_istore_n dX1_takeSieve_1 rfl
theorem s6_2 {l : Launch} {G : KG} : kOpOK l G 6 2 (.inl (g_ild 2 3)) := snd_iload_n dX1_takeSieve_2 rfl
theorem s6_3 {l : Launch} {G : KG} : kOpOK l G 6 3 (.inl (g_ald 0 4)) := snd_aload_n dX1_takeSieve_3 rfl
theorem s6_4 {l : Launch} {G : KG} : kOpOK l G 6 4 (.inl (g_gfi 1 5 7)) := snd_gfi (c := 1) (j := 5) (N := 14) dX1_takeSieve_4 rfl hin1 (by decide) rfl (by decide) rfl wF_1_52
theorem s6_7 {l : Launch} {G : KG} : kOpOK l G 6 7 (.inl (g_br2 (fun x y => decide (y ≤ x)) 36 10)) := snd_icmp_ge dX1_takeSieve_7 (by decide)
theorem s6_10 {l : Launch} {G : KG} : kOpOK l G 6 10 (.inl (g_ald 0 11)) := snd_aload_n dX1_takeSieve_10 rfl
theorem s6_11 {l : Launch} {G : KG} : kOpOK l G 6 11 (.inl (g_gfr 1 2 14)) := snd_gfr (c := 1) (j := 2) (N := 14) dX1_takeSieve_11 rfl hin1 (by decide) rfl (by decide) rfl wF_1_20
theorem s6_14 {l : Launch} {G : KG} : kOpOK l G 6 14 (.inl (g_ild 2 15)) := snd_iload_n dX1_takeSieve_14 rfl
theorem s6_15 {l : Launch} {G : KG} : kOpOK l G 6 15 (.inl (g_aald 9 16)) := snd_aald9 dX1_takeSieve_15
theorem s6_16 {l : Launch} {G : KG} : kOpOK l G 6 16 (.inl (g_ald 0 17)) := snd_aload_n dX1_takeSieve_16 rfl
theorem s6_17 {l : Launch} {G : KG} : kOpOK l G 6 17 (.inl (g_gfr 1 2 20)) := snd_gfr (c := 1) (j := 2) (N := 14) dX1_takeSieve_17 rfl hin1 (by decide) rfl (by decide) rfl wF_1_20
theorem s6_20 {l : Launch} {G : KG} : kOpOK l G 6 20 (.inl (g_ild 2 21)) := snd_iload_n dX1_takeSieve_20 rfl
theorem s6_21 {l : Launch} {G : KG} : kOpOK l G 6 21 (.inl (g_push 1 22)) := snd_iconst dX1_takeSieve_21 rfl
theorem s6_22 {l : Launch} {G : KG} : kOpOK l G 6 22 (.inl (g_iop (fun x y => x + y) 23)) := snd_iadd dX1_takeSieve_22
theorem s6_23 {l : Launch} {G : KG} : kOpOK l G 6 23 (.inl (g_aald 9 24)) := snd_aald9 dX1_takeSieve_23
theorem s6_24 {l : Launch} {G : KG} : kOpOK l G 6 24 (.inl (g_gfi 2 1 27)) := snd_gfi (c := 2) (j := 1) (N := 4) dX1_takeSieve_24 rfl hin2 (by decide) rfl (by decide) rfl wF_1_72
theorem s6_27 {l : Launch} {G : KG} : kOpOK l G 6 27 (.inl (g_pfi 2 1 30)) := snd_pfi (c := 2) (j := 1) (N := 4) dX1_takeSieve_27 rfl hin2 (by decide) rfl (by decide) rfl wF_1_72 tyX2 tyX2_ok nmX2 rfl (by decide +kernel)
theorem s6_30 {l : Launch} {G : KG} : kOpOK l G 6 30 (.inl (g_iinc 2 1 33)) := snd_iinc dX1_takeSieve_30 rfl
theorem s6_33 {l : Launch} {G : KG} : kOpOK l G 6 33 (.inl (g_goto 2)) := snd_goto dX1_takeSieve_33 (by decide)
theorem s6_36 {l : Launch} {G : KG} : kOpOK l G 6 36 (.inl (g_ald 0 37)) := snd_aload_n dX1_takeSieve_36 rfl
theorem s6_37 {l : Launch} {G : KG} : kOpOK l G 6 37 (.inl (g_dup 38)) := snd_dup dX1_takeSieve_37
theorem s6_38 {l : Launch} {G : KG} : kOpOK l G 6 38 (.inl (g_gfi 1 5 41)) := snd_gfi (c := 1) (j := 5) (N := 14) dX1_takeSieve_38 rfl hin1 (by decide) rfl (by decide) rfl wF_1_52
theorem s6_41 {l : Launch} {G : KG} : kOpOK l G 6 41 (.inl (g_push 1 42)) := snd_iconst dX1_takeSieve_41 rfl
theorem s6_42 {l : Launch} {G : KG} : kOpOK l G 6 42 (.inl (g_iop (fun x y => x - y) 43)) := snd_isub dX1_takeSieve_42
theorem s6_43 {l : Launch} {G : KG} : kOpOK l G 6 43 (.inl (g_pfi 1 5 46)) := snd_pfi (c := 1) (j := 5) (N := 14) dX1_takeSieve_43 rfl hin1 (by decide) rfl (by decide) rfl wF_1_52 tyX1 tyX1_ok nmX1 rfl (by decide +kernel)
theorem s6_46 {l : Launch} {G : KG} : kOpOK l G 6 46 (.inr (.inr 0)) := ⟨rfl, Or.inl ⟨rfl, dX1_takeSieve_46, rfl⟩⟩
theorem s7_0 {l : Launch} {G : KG} : kOpOK l G 7 0 (.inl (g_push 0 1)) := snd_iconst dX1_endAnalysis_0 rfl
theorem s7_1 {l : Launch} {G : KG} : kOpOK l G 7 1 (.inl (g_ist 1 2)) := snd_istore_n dX1_endAnalysis_1 rfl
theorem s7_2 {l : Launch} {G : KG} : kOpOK l G 7 2 (.inl (g_ild 1 3)) := snd_iload_n dX1_endAnalysis_2 rfl
theorem s7_3 {l : Launch} {G : KG} : kOpOK l G 7 3 (.inl (g_push 6 5)) := snd_bipush dX1_endAnalysis_3 rfl
theorem s7_5 {l : Launch} {G : KG} : kOpOK l G 7 5 (.inl (g_br2 (fun x y => decide (y < x)) 23 8)) := snd_icmp_gt dX1_endAnalysis_5 (by decide)
theorem s7_8 {l : Launch} {G : KG} : kOpOK l G 7 8 (.inl (g_ald 0 9)) := snd_aload_n dX1_endAnalysis_8 rfl
theorem s7_9 {l : Launch} {G : KG} : kOpOK l G 7 9 (.inl (g_gfr 1 2 12)) := snd_gfr (c := 1) (j := 2) (N := 14) dX1_endAnalysis_9 rfl hin1 (by decide) rfl (by decide) rfl wF_1_20
theorem s7_12 {l : Launch} {G : KG} : kOpOK l G 7 12 (.inl (g_ild 1 13)) := snd_iload_n dX1_endAnalysis_12 rfl
theorem s7_13 {l : Launch} {G : KG} : kOpOK l G 7 13 (.inl (g_aald 9 14)) := snd_aald9 dX1_endAnalysis_13
theorem s7_14 {l : Launch} {G : KG} : kOpOK l G 7 14 (.inr (.inl (12, 1, 17))) := ⟨snd_callV (c := 2) dX1_endAnalysis_14 rfl mok_12 rfl rfl rfl rfl (by decide) rfl wM_1_75 wN_X2_throwAway wL_X2_throwAway wI_2 (by decide) ⟨rfl, rfl⟩, rfl, mok_12, by decide⟩
theorem s7_17 {l : Launch} {G : KG} : kOpOK l G 7 17 (.inl (g_iinc 1 1 20)) := snd_iinc dX1_endAnalysis_17 rfl
theorem s7_20 {l : Launch} {G : KG} : kOpOK l G 7 20 (.inl (g_goto 2)) := snd_goto dX1_endAnalysis_20 (by decide)
theorem s7_23 {l : Launch} {G : KG} : kOpOK l G 7 23 (.inl (g_ald 0 24)) := snd_aload_n dX1_endAnalysis_23 rfl
theorem s7_24 {l : Launch} {G : KG} : kOpOK l G 7 24 (.inl (g_push 0 25)) := snd_iconst dX1_endAnalysis_24 rfl
theorem s7_25 {l : Launch} {G : KG} : kOpOK l G 7 25 (.inl (g_pfz 1 10 28)) := snd_pfz (c := 1) (j := 10) (N := 14) dX1_endAnalysis_25 rfl hin1 (by decide) rfl (by decide) rfl wF_1_55 tyX1 tyX1_ok nmX1 rfl (by decide +kernel)
theorem s7_28 {l : Launch} {G : KG} : kOpOK l G 7 28 (.inl (g_ald 0 29)) := snd_aload_n dX1_endAnalysis_28 rfl
theorem s7_29 {l : Launch} {G : KG} : kOpOK l G 7 29 (.inl (g_push 0 30)) := snd_iconst dX1_endAnalysis_29 rfl
theorem s7_30 {l : Launch} {G : KG} : kOpOK l G 7 30 (.inl (g_pfi 1 11 33)) := snd_pfi (c := 1) (j := 11) (N := 14) dX1_endAnalysis_30 rfl hin1 (by decide) rfl (by decide) rfl wF_1_59 tyX1 tyX1_ok nmX1 rfl (by decide +kernel)
theorem s7_33 {l : Launch} {G : KG} : kOpOK l G 7 33 (.inl (g_ald 0 34)) := snd_aload_n dX1_endAnalysis_33 rfl
theorem s7_34 {l : Launch} {G : KG} : kOpOK l G 7 34 (.inl (g_push 0 35)) := snd_iconst dX1_endAnalysis_34 rfl
theorem s7_35 {l : Launch} {G : KG} : kOpOK l G 7 35 (.inl (g_pfi 1 12 38)) := snd_pfi (c := 1) (j := 12) (N := 14) dX1_endAnalysis_35 rfl hin1 (by decide) rfl (by decide) rfl wF_1_62 tyX1 tyX1_ok nmX1 rfl (by decide +kernel)
theorem s7_38 {l : Launch} {G : KG} : kOpOK l G 7 38 (.inl (g_ald 0 39)) := snd_aload_n dX1_endAnalysis_38 rfl
theorem s7_39 {l : Launch} {G : KG} : kOpOK l G 7 39 (.inl (g_push 0 40)) := snd_iconst dX1_endAnalysis_39 rfl
theorem s7_40 {l : Launch} {G : KG} : kOpOK l G 7 40 (.inl (g_pfi 1 13 43)) := snd_pfi (c := 1) (j := 13) (N := 14) dX1_endAnalysis_40 rfl hin1 (by decide) rfl (by decide) rfl wF_1_65 tyX1 tyX1_ok nmX1 rfl (by decide +kernel)
theorem s7_43 {l : Launch} {G : KG} : kOpOK l G 7 43 (.inr (.inr 0)) := ⟨rfl, Or.inl ⟨rfl, dX1_endAnalysis_43, rfl⟩⟩
theorem s8_0 {l : Launch} {G : KG} : kOpOK l G 8 0 (.inl (g_ald 0 1)) := snd_aload_n dX1_beginAnalysis_0 rfl
theorem s8_1 {l : Launch} {G : KG} : kOpOK l G 8 1 (.inl (g_gfr 1 0 4)) := snd_gfr (c := 1) (j := 0) (N := 14) dX1_beginAnalysis_1 rfl hin1 (by decide) rfl (by decide) rfl wF_1_9
theorem s8_4 {l : Launch} {G : KG} : kOpOK l G 8 4 (.inl (g_ald 0 5)) := snd_aload_n dX1_beginAnalysis_4 rfl
theorem s8_5 {l : Launch} {G : KG} : kOpOK l G 8 5 (.inl (g_gfr 1 2 8)) := snd_gfr (c := 1) (j := 2) (N := 14) dX1_beginAnalysis_5 rfl hin1 (by decide) rfl (by decide) rfl wF_1_20
theorem s8_8 {l : Launch} {G : KG} : kOpOK l G 8 8 (.inl (g_push 0 9)) := snd_iconst dX1_beginAnalysis_8 rfl
theorem s8_9 {l : Launch} {G : KG} : kOpOK l G 8 9 (.inl (g_aald 9 10)) := snd_aald9 dX1_beginAnalysis_9
theorem s8_10 {l : Launch} {G : KG} : kOpOK l G 8 10 (.inl (g_gfr 2 0 13)) := snd_gfr (c := 2) (j := 0) (N := 4) dX1_beginAnalysis_10 rfl hin2 (by decide) rfl (by decide) rfl wF_1_78
theorem s8_13 {l : Launch} {G : KG} : kOpOK l G 8 13 (.inr (.inl (42, 2, 16))) := ⟨snd_callSN (host := RX3) (idx := 44) dX1_beginAnalysis_13 rfl mok_42 rfl rfl (by decide +kernel) wS_X3_copyRow (by decide) ⟨rfl, rfl⟩, rfl, mok_42, by decide⟩
theorem s8_16 {l : Launch} {G : KG} : kOpOK l G 8 16 (.inl (g_ald 0 17)) := snd_aload_n dX1_beginAnalysis_16 rfl
theorem s8_17 {l : Launch} {G : KG} : kOpOK l G 8 17 (.inl (g_gfr 1 0 20)) := snd_gfr (c := 1) (j := 0) (N := 14) dX1_beginAnalysis_17 rfl hin1 (by decide) rfl (by decide) rfl wF_1_9
theorem s8_20 {l : Launch} {G : KG} : kOpOK l G 8 20 (.inr (.inl (41, 1, 23))) := ⟨snd_callSN (host := RX3) (idx := 81) dX1_beginAnalysis_20 rfl mok_41 rfl rfl (by decide +kernel) wS_X3_clearRow (by decide) ⟨rfl, rfl⟩, rfl, mok_41, by decide⟩
theorem s8_23 {l : Launch} {G : KG} : kOpOK l G 8 23 (.inl (g_ald 0 24)) := snd_aload_n dX1_beginAnalysis_23 rfl
theorem s8_24 {l : Launch} {G : KG} : kOpOK l G 8 24 (.inl (g_push 1 25)) := snd_iconst dX1_beginAnalysis_24 rfl
theorem s8_25 {l : Launch} {G : KG} : kOpOK l G 8 25 (.inl (g_pfz 1 10 28)) := snd_pfz (c := 1) (j := 10) (N := 14) dX1_beginAnalysis_25 rfl hin1 (by decide) rfl (by decide) rfl wF_1_55 tyX1 tyX1_ok nmX1 rfl (by decide +kernel)
theorem s8_28 {l : Launch} {G : KG} : kOpOK l G 8 28 (.inl (g_ald 0 29)) := snd_aload_n dX1_beginAnalysis_28 rfl
theorem s8_29 {l : Launch} {G : KG} : kOpOK l G 8 29 (.inl (g_ild 1 30)) := snd_iload_n dX1_beginAnalysis_29 rfl
theorem s8_30 {l : Launch} {G : KG} : kOpOK l G 8 30 (.inl (g_pfi 1 11 33)) := snd_pfi (c := 1) (j := 11) (N := 14) dX1_beginAnalysis_30 rfl hin1 (by decide) rfl (by decide) rfl wF_1_59 tyX1 tyX1_ok nmX1 rfl (by decide +kernel)
theorem s8_33 {l : Launch} {G : KG} : kOpOK l G 8 33 (.inr (.inr 0)) := ⟨rfl, Or.inl ⟨rfl, dX1_beginAnalysis_33, rfl⟩⟩
theorem s9_0 {l : Launch} {G : KG} : kOpOK l G 9 0 (.inl (g_ald 0 1)) := snd_aload_n dX1_shakeOneMinute_0 rfl
theorem s9_1 {l : Launch} {G : KG} : kOpOK l G 9 1 (.inl (g_push 0 2)) := snd_iconst dX1_shakeOneMinute_1 rfl
theorem s9_2 {l : Launch} {G : KG} : kOpOK l G 9 2 (.inl (g_pfi 1 13 5)) := snd_pfi (c := 1) (j := 13) (N := 14) dX1_shakeOneMinute_2 rfl hin1 (by decide) rfl (by decide) rfl wF_1_65 tyX1 tyX1_ok nmX1 rfl (by decide +kernel)
theorem s9_5 {l : Launch} {G : KG} : kOpOK l G 9 5 (.inl (g_ald 0 6)) := snd_aload_n dX1_shakeOneMinute_5 rfl
theorem s9_6 {l : Launch} {G : KG} : kOpOK l G 9 6 (.inl (g_gfi 1 5 9)) := snd_gfi (c := 1) (j := 5) (N := 14) dX1_shakeOneMinute_6 rfl hin1 (by decide) rfl (by decide) rfl wF_1_52
theorem s9_9 {l : Launch} {G : KG} : kOpOK l G 9 9 (.inl (g_push 1 10)) := snd_iconst dX1_shakeOneMinute_9 rfl
theorem s9_10 {l : Launch} {G : KG} : kOpOK l G 9 10 (.inl (g_iop (fun x y => x - y) 11)) := snd_isub dX1_shakeOneMinute_10
theorem s9_11 {l : Launch} {G : KG} : kOpOK l G 9 11 (.inl (g_ist 1 12)) := snd_istore_n dX1_shakeOneMinute_11 rfl
theorem s9_12 {l : Launch} {G : KG} : kOpOK l G 9 12 (.inl (g_ild 1 13)) := snd_iload_n dX1_shakeOneMinute_12 rfl
theorem s9_13 {l : Launch} {G : KG} : kOpOK l G 9 13 (.inl (g_br1 (fun x => decide (x < 0)) 65 16)) := snd_if_lt dX1_shakeOneMinute_13 (by decide)
theorem s9_16 {l : Launch} {G : KG} : kOpOK l G 9 16 (.inl (g_ald 0 17)) := snd_aload_n dX1_shakeOneMinute_16 rfl
theorem s9_17 {l : Launch} {G : KG} : kOpOK l G 9 17 (.inl (g_dup 18)) := snd_dup dX1_shakeOneMinute_17
theorem s9_18 {l : Launch} {G : KG} : kOpOK l G 9 18 (.inl (g_gfi 1 13 21)) := snd_gfi (c := 1) (j := 13) (N := 14) dX1_shakeOneMinute_18 rfl hin1 (by decide) rfl (by decide) rfl wF_1_65
theorem s9_21 {l : Launch} {G : KG} : kOpOK l G 9 21 (.inl (g_ald 0 22)) := snd_aload_n dX1_shakeOneMinute_21 rfl
theorem s9_22 {l : Launch} {G : KG} : kOpOK l G 9 22 (.inl (g_gfr 1 2 25)) := snd_gfr (c := 1) (j := 2) (N := 14) dX1_shakeOneMinute_22 rfl hin1 (by decide) rfl (by decide) rfl wF_1_20
theorem s9_25 {l : Launch} {G : KG} : kOpOK l G 9 25 (.inl (g_ild 1 26)) := snd_iload_n dX1_shakeOneMinute_25 rfl
theorem s9_26 {l : Launch} {G : KG} : kOpOK l G 9 26 (.inl (g_aald 9 27)) := snd_aald9 dX1_shakeOneMinute_26
theorem s9_27 {l : Launch} {G : KG} : kOpOK l G 9 27 (.inl (g_ald 0 28)) := snd_aload_n dX1_shakeOneMinute_27 rfl
theorem s9_28 {l : Launch} {G : KG} : kOpOK l G 9 28 (.inl (g_gfr 1 2 31)) := snd_gfr (c := 1) (j := 2) (N := 14) dX1_shakeOneMinute_28 rfl hin1 (by decide) rfl (by decide) rfl wF_1_20
theorem s9_31 {l : Launch} {G : KG} : kOpOK l G 9 31 (.inl (g_ild 1 32)) := snd_iload_n dX1_shakeOneMinute_31 rfl
theorem s9_32 {l : Launch} {G : KG} : kOpOK l G 9 32 (.inl (g_push 1 33)) := snd_iconst dX1_shakeOneMinute_32 rfl
theorem s9_33 {l : Launch} {G : KG} : kOpOK l G 9 33 (.inl (g_iop (fun x y => x + y) 34)) := snd_iadd dX1_shakeOneMinute_33
theorem s9_34 {l : Launch} {G : KG} : kOpOK l G 9 34 (.inl (g_aald 9 35)) := snd_aald9 dX1_shakeOneMinute_34
theorem s9_35 {l : Launch} {G : KG} : kOpOK l G 9 35 (.inl (g_ald 0 36)) := snd_aload_n dX1_shakeOneMinute_35 rfl
theorem s9_36 {l : Launch} {G : KG} : kOpOK l G 9 36 (.inl (g_gfi 1 6 39)) := snd_gfi (c := 1) (j := 6) (N := 14) dX1_shakeOneMinute_36 rfl hin1 (by decide) rfl (by decide) rfl wF_1_30
theorem s9_39 {l : Launch} {G : KG} : kOpOK l G 9 39 (.inr (.inl (14, 3, 42))) := ⟨snd_callV (c := 2) dX1_shakeOneMinute_39 rfl mok_14 rfl rfl rfl rfl (by decide) rfl wM_1_85 wN_X2_dropOnto wL_X2_dropOnto wI_2 (by decide) ⟨rfl, rfl⟩, rfl, mok_14, by decide⟩
theorem s9_42 {l : Launch} {G : KG} : kOpOK l G 9 42 (.inl (g_iop (fun x y => x + y) 43)) := snd_iadd dX1_shakeOneMinute_42
theorem s9_43 {l : Launch} {G : KG} : kOpOK l G 9 43 (.inl (g_pfi 1 13 46)) := snd_pfi (c := 1) (j := 13) (N := 14) dX1_shakeOneMinute_43 rfl hin1 (by decide) rfl (by decide) rfl wF_1_65 tyX1 tyX1_ok nmX1 rfl (by decide +kernel)
theorem s9_46 {l : Launch} {G : KG} : kOpOK l G 9 46 (.inl (g_ald 0 47)) := snd_aload_n dX1_shakeOneMinute_46 rfl
theorem s9_47 {l : Launch} {G : KG} : kOpOK l G 9 47 (.inl (g_gfr 1 2 50)) := snd_gfr (c := 1) (j := 2) (N := 14) dX1_shakeOneMinute_47 rfl hin1 (by decide) rfl (by decide) rfl wF_1_20
theorem s9_50 {l : Launch} {G : KG} : kOpOK l G 9 50 (.inl (g_ild 1 51)) := snd_iload_n dX1_shakeOneMinute_50 rfl
theorem s9_51 {l : Launch} {G : KG} : kOpOK l G 9 51 (.inl (g_aald 9 52)) := snd_aald9 dX1_shakeOneMinute_51
theorem s9_52 {l : Launch} {G : KG} : kOpOK l G 9 52 (.inl (g_ald 0 53)) := snd_aload_n dX1_shakeOneMinute_52 rfl
theorem s9_53 {l : Launch} {G : KG} : kOpOK l G 9 53 (.inl (g_gfi 1 7 56)) := snd_gfi (c := 1) (j := 7) (N := 14) dX1_shakeOneMinute_53 rfl hin1 (by decide) rfl (by decide) rfl wF_1_34
theorem s9_56 {l : Launch} {G : KG} : kOpOK l G 9 56 (.inr (.inl (15, 2, 59))) := ⟨snd_callV (c := 2) dX1_shakeOneMinute_56 rfl mok_15 rfl rfl rfl rfl (by decide) rfl wM_1_89 wN_X2_blind wL_X2_blind wI_2 (by decide) ⟨rfl, rfl⟩, rfl, mok_15, by decide⟩
theorem s9_59 {l : Launch} {G : KG} : kOpOK l G 9 59 (.inl (g_iinc 1 (-1) 62)) := snd_iinc dX1_shakeOneMinute_59 rfl
theorem s9_62 {l : Launch} {G : KG} : kOpOK l G 9 62 (.inl (g_goto 12)) := snd_goto dX1_shakeOneMinute_62 (by decide)
theorem s9_65 {l : Launch} {G : KG} : kOpOK l G 9 65 (.inl (g_ald 0 66)) := snd_aload_n dX1_shakeOneMinute_65 rfl
theorem s9_66 {l : Launch} {G : KG} : kOpOK l G 9 66 (.inl (g_gfr 1 2 69)) := snd_gfr (c := 1) (j := 2) (N := 14) dX1_shakeOneMinute_66 rfl hin1 (by decide) rfl (by decide) rfl wF_1_20
theorem s9_69 {l : Launch} {G : KG} : kOpOK l G 9 69 (.inl (g_ald 0 70)) := snd_aload_n dX1_shakeOneMinute_69 rfl
theorem s9_70 {l : Launch} {G : KG} : kOpOK l G 9 70 (.inl (g_gfi 1 5 73)) := snd_gfi (c := 1) (j := 5) (N := 14) dX1_shakeOneMinute_70 rfl hin1 (by decide) rfl (by decide) rfl wF_1_52
theorem s9_73 {l : Launch} {G : KG} : kOpOK l G 9 73 (.inl (g_aald 9 74)) := snd_aald9 dX1_shakeOneMinute_73
theorem s9_74 {l : Launch} {G : KG} : kOpOK l G 9 74 (.inl (g_gfr 2 0 77)) := snd_gfr (c := 2) (j := 0) (N := 4) dX1_shakeOneMinute_74 rfl hin2 (by decide) rfl (by decide) rfl wF_1_78
theorem s9_77 {l : Launch} {G : KG} : kOpOK l G 9 77 (.inl (g_ast 1 78)) := snd_astore_n dX1_shakeOneMinute_77 rfl
theorem s9_78 {l : Launch} {G : KG} : kOpOK l G 9 78 (.inl (g_ald 1 79)) := snd_aload_n dX1_shakeOneMinute_78 rfl
theorem s9_79 {l : Launch} {G : KG} : kOpOK l G 9 79 (.inl (g_push 0 80)) := snd_iconst dX1_shakeOneMinute_79 rfl
theorem s9_80 {l : Launch} {G : KG} : kOpOK l G 9 80 (.inl (g_dup2 81)) := snd_dup2 dX1_shakeOneMinute_80
theorem s9_81 {l : Launch} {G : KG} : kOpOK l G 9 81 (.inl (g_pald 5 82)) := snd_pald5 dX1_shakeOneMinute_81
theorem s9_82 {l : Launch} {G : KG} : kOpOK l G 9 82 (.inl (g_ald 1 83)) := snd_aload_n dX1_shakeOneMinute_82 rfl
theorem s9_83 {l : Launch} {G : KG} : kOpOK l G 9 83 (.inl (g_push 0 84)) := snd_iconst dX1_shakeOneMinute_83 rfl
theorem s9_84 {l : Launch} {G : KG} : kOpOK l G 9 84 (.inl (g_pald 5 85)) := snd_pald5 dX1_shakeOneMinute_84
theorem s9_85 {l : Launch} {G : KG} : kOpOK l G 9 85 (.inl (g_ald 0 86)) := snd_aload_n dX1_shakeOneMinute_85 rfl
theorem s9_86 {l : Launch} {G : KG} : kOpOK l G 9 86 (.inl (g_gfi 1 8 89)) := snd_gfi (c := 1) (j := 8) (N := 14) dX1_shakeOneMinute_86 rfl hin1 (by decide) rfl (by decide) rfl wF_1_37
theorem s9_89 {l : Launch} {G : KG} : kOpOK l G 9 89 (.inl (g_iop (fun x y => x * y) 90)) := snd_imul dX1_shakeOneMinute_89
theorem s9_90 {l : Launch} {G : KG} : kOpOK l G 9 90 (.inl (g_push 1000 93)) := snd_sipush dX1_shakeOneMinute_90 rfl
theorem s9_93 {l : Launch} {G : KG} : kOpOK l G 9 93 (.inl (g_idiv (fun x y => x / y) 94)) := snd_idiv dX1_shakeOneMinute_93
theorem s9_94 {l : Launch} {G : KG} : kOpOK l G 9 94 (.inl (g_iop (fun x y => x - y) 95)) := snd_isub dX1_shakeOneMinute_94
theorem s9_95 {l : Launch} {G : KG} : kOpOK l G 9 95 (.inl (g_past 5 96)) := snd_past5 dX1_shakeOneMinute_95
theorem s9_96 {l : Launch} {G : KG} : kOpOK l G 9 96 (.inl (g_ald 0 97)) := snd_aload_n dX1_shakeOneMinute_96 rfl
theorem s9_97 {l : Launch} {G : KG} : kOpOK l G 9 97 (.inl (g_dup 98)) := snd_dup dX1_shakeOneMinute_97
theorem s9_98 {l : Launch} {G : KG} : kOpOK l G 9 98 (.inl (g_gfi 1 12 101)) := snd_gfi (c := 1) (j := 12) (N := 14) dX1_shakeOneMinute_98 rfl hin1 (by decide) rfl (by decide) rfl wF_1_62
theorem s9_101 {l : Launch} {G : KG} : kOpOK l G 9 101 (.inl (g_push 1 102)) := snd_iconst dX1_shakeOneMinute_101 rfl
theorem s9_102 {l : Launch} {G : KG} : kOpOK l G 9 102 (.inl (g_iop (fun x y => x + y) 103)) := snd_iadd dX1_shakeOneMinute_102
theorem s9_103 {l : Launch} {G : KG} : kOpOK l G 9 103 (.inl (g_pfi 1 12 106)) := snd_pfi (c := 1) (j := 12) (N := 14) dX1_shakeOneMinute_103 rfl hin1 (by decide) rfl (by decide) rfl wF_1_62 tyX1 tyX1_ok nmX1 rfl (by decide +kernel)
theorem s9_106 {l : Launch} {G : KG} : kOpOK l G 9 106 (.inl (g_ald 0 107)) := snd_aload_n dX1_shakeOneMinute_106 rfl
theorem s9_107 {l : Launch} {G : KG} : kOpOK l G 9 107 (.inl (g_gfi 1 13 110)) := snd_gfi (c := 1) (j := 13) (N := 14) dX1_shakeOneMinute_107 rfl hin1 (by decide) rfl (by decide) rfl wF_1_65
theorem s9_110 {l : Launch} {G : KG} : kOpOK l G 9 110 (.inr (.inr 1)) := ⟨rfl, Or.inr (Or.inl ⟨rfl, dX1_shakeOneMinute_110, rfl⟩)⟩
theorem s10_0 {l : Launch} {G : KG} : kOpOK l G 10 0 (.inl (g_push 0 1)) := snd_iconst dX1_lostMass_0 rfl
theorem s10_1 {l : Launch} {G : KG} : kOpOK l G 10 1 (.inl (g_ist 1 2)) := snd_istore_n dX1_lostMass_1 rfl
theorem s10_2 {l : Launch} {G : KG} : kOpOK l G 10 2 (.inl (g_push 0 3)) := snd_iconst dX1_lostMass_2 rfl
theorem s10_3 {l : Launch} {G : KG} : kOpOK l G 10 3 (.inl (g_ist 2 4)) := snd_istore_n dX1_lostMass_3 rfl
theorem s10_4 {l : Launch} {G : KG} : kOpOK l G 10 4 (.inl (g_ild 2 5)) := snd_iload_n dX1_lostMass_4 rfl
theorem s10_5 {l : Launch} {G : KG} : kOpOK l G 10 5 (.inl (g_ald 0 6)) := snd_aload_n dX1_lostMass_5 rfl
theorem s10_6 {l : Launch} {G : KG} : kOpOK l G 10 6 (.inl (g_gfi 1 5 9)) := snd_gfi (c := 1) (j := 5) (N := 14) dX1_lostMass_6 rfl hin1 (by decide) rfl (by decide) rfl wF_1_52
theorem s10_9 {l : Launch} {G : KG} : kOpOK l G 10 9 (.inl (g_br2 (fun x y => decide (y < x)) 45 12)) := snd_icmp_gt dX1_lostMass_9 (by decide)
theorem s10_12 {l : Launch} {G : KG} : kOpOK l G 10 12 (.inl (g_ald 0 13)) := snd_aload_n dX1_lostMass_12 rfl
theorem s10_13 {l : Launch} {G : KG} : kOpOK l G 10 13 (.inl (g_gfr 1 2 16)) := snd_gfr (c := 1) (j := 2) (N := 14) dX1_lostMass_13 rfl hin1 (by decide) rfl (by decide) rfl wF_1_20
theorem s10_16 {l : Launch} {G : KG} : kOpOK l G 10 16 (.inl (g_ild 2 17)) := snd_iload_n dX1_lostMass_16 rfl
theorem s10_17 {l : Launch} {G : KG} : kOpOK l G 10 17 (.inl (g_aald 9 18)) := snd_aald9 dX1_lostMass_17
theorem s10_18 {l : Launch} {G : KG} : kOpOK l G 10 18 (.inl (g_ast 3 19)) := snd_astore_n dX1_lostMass_18 rfl
theorem s10_19 {l : Launch} {G : KG} : kOpOK l G 10 19 (.inl (g_ild 1 20)) := snd_iload_n dX1_lostMass_19 rfl
theorem s10_20 {l : Launch} {G : KG} : kOpOK l G 10 20 (.inl (g_ald 3 21)) := snd_aload_n dX1_lostMass_20 rfl
theorem s10_21 {l : Launch} {G : KG} : kOpOK l G 10 21 (.inl (g_gfr 2 0 24)) := snd_gfr (c := 2) (j := 0) (N := 4) dX1_lostMass_21 rfl hin2 (by decide) rfl (by decide) rfl wF_1_78
theorem s10_24 {l : Launch} {G : KG} : kOpOK l G 10 24 (.inr (.inl (40, 1, 27))) := ⟨snd_callSN (host := RX3) (idx := 93) dX1_lostMass_24 rfl mok_40 rfl rfl (by decide +kernel) wS_X3_sumOf (by decide) ⟨rfl, rfl⟩, rfl, mok_40, by decide⟩
theorem s10_27 {l : Launch} {G : KG} : kOpOK l G 10 27 (.inl (g_ald 3 28)) := snd_aload_n dX1_lostMass_27 rfl
theorem s10_28 {l : Launch} {G : KG} : kOpOK l G 10 28 (.inl (g_gfi 2 2 31)) := snd_gfi (c := 2) (j := 2) (N := 4) dX1_lostMass_28 rfl hin2 (by decide) rfl (by decide) rfl wF_1_97
theorem s10_31 {l : Launch} {G : KG} : kOpOK l G 10 31 (.inl (g_iop (fun x y => x + y) 32)) := snd_iadd dX1_lostMass_31
theorem s10_32 {l : Launch} {G : KG} : kOpOK l G 10 32 (.inl (g_ald 3 33)) := snd_aload_n dX1_lostMass_32 rfl
theorem s10_33 {l : Launch} {G : KG} : kOpOK l G 10 33 (.inl (g_gfi 2 3 36)) := snd_gfi (c := 2) (j := 3) (N := 4) dX1_lostMass_33 rfl hin2 (by decide) rfl (by decide) rfl wF_1_100
theorem s10_36 {l : Launch} {G : KG} : kOpOK l G 10 36 (.inl (g_iop (fun x y => x + y) 37)) := snd_iadd dX1_lostMass_36
theorem s10_37 {l : Launch} {G : KG} : kOpOK l G 10 37 (.inl (g_iop (fun x y => x + y) 38)) := snd_iadd dX1_lostMass_37
theorem s10_38 {l : Launch} {G : KG} : kOpOK l G 10 38 (.inl (g_ist 1 39)) := snd_istore_n dX1_lostMass_38 rfl
theorem s10_39 {l : Launch} {G : KG} : kOpOK l G 10 39 (.inl (g_iinc 2 1 42)) := snd_iinc dX1_lostMass_39 rfl
theorem s10_42 {l : Launch} {G : KG} : kOpOK l G 10 42 (.inl (g_goto 4)) := snd_goto dX1_lostMass_42 (by decide)
theorem s10_45 {l : Launch} {G : KG} : kOpOK l G 10 45 (.inl (g_ald 0 46)) := snd_aload_n dX1_lostMass_45 rfl
theorem s10_46 {l : Launch} {G : KG} : kOpOK l G 10 46 (.inl (g_gfi 1 11 49)) := snd_gfi (c := 1) (j := 11) (N := 14) dX1_lostMass_46 rfl hin1 (by decide) rfl (by decide) rfl wF_1_59
theorem s10_49 {l : Launch} {G : KG} : kOpOK l G 10 49 (.inl (g_ild 1 50)) := snd_iload_n dX1_lostMass_49 rfl
theorem s10_50 {l : Launch} {G : KG} : kOpOK l G 10 50 (.inl (g_iop (fun x y => x - y) 51)) := snd_isub dX1_lostMass_50
theorem s10_51 {l : Launch} {G : KG} : kOpOK l G 10 51 (.inr (.inr 1)) := ⟨rfl, Or.inr (Or.inl ⟨rfl, dX1_lostMass_51, rfl⟩)⟩
theorem s11_0 {l : Launch} {G : KG} : kOpOK l G 11 0 (.inl (g_ald 1 1)) := snd_aload_n dX2_copyFrom_0 rfl
theorem s11_1 {l : Launch} {G : KG} : kOpOK l G 11 1 (.inl (g_gfr 2 0 4)) := snd_gfr (c := 2) (j := 0) (N := 4) dX2_copyFrom_1 rfl hin2 (by decide) rfl (by decide) rfl wF_2_9
theorem s11_4 {l : Launch} {G : KG} : kOpOK l G 11 4 (.inl (g_ald 0 5)) := snd_aload_n dX2_copyFrom_4 rfl
theorem s11_5 {l : Launch} {G : KG} : kOpOK l G 11 5 (.inl (g_gfr 2 0 8)) := snd_gfr (c := 2) (j := 0) (N := 4) dX2_copyFrom_5 rfl hin2 (by decide) rfl (by decide) rfl wF_2_9
theorem s11_8 {l : Launch} {G : KG} : kOpOK l G 11 8 (.inr (.inl (42, 2, 11))) := ⟨snd_callSN (host := RX3) (idx := 15) dX2_copyFrom_8 rfl mok_42 rfl rfl (by decide +kernel) wS_X3_copyRow (by decide) ⟨rfl, rfl⟩, rfl, mok_42, by decide⟩
theorem s11_11 {l : Launch} {G : KG} : kOpOK l G 11 11 (.inl (g_ald 0 12)) := snd_aload_n dX2_copyFrom_11 rfl
theorem s11_12 {l : Launch} {G : KG} : kOpOK l G 11 12 (.inl (g_ald 1 13)) := snd_aload_n dX2_copyFrom_12 rfl
theorem s11_13 {l : Launch} {G : KG} : kOpOK l G 11 13 (.inl (g_gfi 2 1 16)) := snd_gfi (c := 2) (j := 1) (N := 4) dX2_copyFrom_13 rfl hin2 (by decide) rfl (by decide) rfl wF_2_19
theorem s11_16 {l : Launch} {G : KG} : kOpOK l G 11 16 (.inl (g_pfi 2 1 19)) := snd_pfi (c := 2) (j := 1) (N := 4) dX2_copyFrom_16 rfl hin2 (by decide) rfl (by decide) rfl wF_2_19 tyX2 tyX2_ok nmX2 rfl (by decide +kernel)
theorem s11_19 {l : Launch} {G : KG} : kOpOK l G 11 19 (.inl (g_ald 0 20)) := snd_aload_n dX2_copyFrom_19 rfl
theorem s11_20 {l : Launch} {G : KG} : kOpOK l G 11 20 (.inl (g_ald 1 21)) := snd_aload_n dX2_copyFrom_20 rfl
theorem s11_21 {l : Launch} {G : KG} : kOpOK l G 11 21 (.inl (g_gfi 2 2 24)) := snd_gfi (c := 2) (j := 2) (N := 4) dX2_copyFrom_21 rfl hin2 (by decide) rfl (by decide) rfl wF_2_23
theorem s11_24 {l : Launch} {G : KG} : kOpOK l G 11 24 (.inl (g_pfi 2 2 27)) := snd_pfi (c := 2) (j := 2) (N := 4) dX2_copyFrom_24 rfl hin2 (by decide) rfl (by decide) rfl wF_2_23 tyX2 tyX2_ok nmX2 rfl (by decide +kernel)
theorem s11_27 {l : Launch} {G : KG} : kOpOK l G 11 27 (.inl (g_ald 0 28)) := snd_aload_n dX2_copyFrom_27 rfl
theorem s11_28 {l : Launch} {G : KG} : kOpOK l G 11 28 (.inl (g_ald 1 29)) := snd_aload_n dX2_copyFrom_28 rfl
theorem s11_29 {l : Launch} {G : KG} : kOpOK l G 11 29 (.inl (g_gfi 2 3 32)) := snd_gfi (c := 2) (j := 3) (N := 4) dX2_copyFrom_29 rfl hin2 (by decide) rfl (by decide) rfl wF_2_26
theorem s11_32 {l : Launch} {G : KG} : kOpOK l G 11 32 (.inl (g_pfi 2 3 35)) := snd_pfi (c := 2) (j := 3) (N := 4) dX2_copyFrom_32 rfl hin2 (by decide) rfl (by decide) rfl wF_2_26 tyX2 tyX2_ok nmX2 rfl (by decide +kernel)
theorem s11_35 {l : Launch} {G : KG} : kOpOK l G 11 35 (.inr (.inr 0)) := ⟨rfl, Or.inl ⟨rfl, dX2_copyFrom_35, rfl⟩⟩
theorem s12_0 {l : Launch} {G : KG} : kOpOK l G 12 0 (.inl (g_ald 0 1)) := snd_aload_n dX2_throwAway_0 rfl
theorem s12_1 {l : Launch} {G : KG} : kOpOK l G 12 1 (.inl (g_gfr 2 0 4)) := snd_gfr (c := 2) (j := 0) (N := 4) dX2_throwAway_1 rfl hin2 (by decide) rfl (by decide) rfl wF_2_9
theorem s12_4 {l : Launch} {G : KG} : kOpOK l G 12 4 (.inr (.inl (41, 1, 7))) := ⟨snd_callSN (host := RX3) (idx := 29) dX2_throwAway_4 rfl mok_41 rfl rfl (by decide +kernel) wS_X3_clearRow (by decide) ⟨rfl, rfl⟩, rfl, mok_41, by decide⟩
theorem s12_7 {l : Launch} {G : KG} : kOpOK l G 12 7 (.inl (g_ald 0 8)) := snd_aload_n dX2_throwAway_7 rfl
theorem s12_8 {l : Launch} {G : KG} : kOpOK l G 12 8 (.inl (g_push 0 9)) := snd_iconst dX2_throwAway_8 rfl
theorem s12_9 {l : Launch} {G : KG} : kOpOK l G 12 9 (.inl (g_pfi 2 2 12)) := snd_pfi (c := 2) (j := 2) (N := 4) dX2_throwAway_9 rfl hin2 (by decide) rfl (by decide) rfl wF_2_23 tyX2 tyX2_ok nmX2 rfl (by decide +kernel)
theorem s12_12 {l : Launch} {G : KG} : kOpOK l G 12 12 (.inl (g_ald 0 13)) := snd_aload_n dX2_throwAway_12 rfl
theorem s12_13 {l : Launch} {G : KG} : kOpOK l G 12 13 (.inl (g_push 0 14)) := snd_iconst dX2_throwAway_13 rfl
theorem s12_14 {l : Launch} {G : KG} : kOpOK l G 12 14 (.inl (g_pfi 2 3 17)) := snd_pfi (c := 2) (j := 3) (N := 4) dX2_throwAway_14 rfl hin2 (by decide) rfl (by decide) rfl wF_2_26 tyX2 tyX2_ok nmX2 rfl (by decide +kernel)
theorem s12_17 {l : Launch} {G : KG} : kOpOK l G 12 17 (.inr (.inr 0)) := ⟨rfl, Or.inl ⟨rfl, dX2_throwAway_17, rfl⟩⟩
theorem s13_0 {l : Launch} {G : KG} : kOpOK l G 13 0 (.inl (g_push 100 2)) := snd_bipush dX2_openness_0 rfl
theorem s13_2 {l : Launch} {G : KG} : kOpOK l G 13 2 (.inl (g_push 1000 5)) := snd_sipush dX2_openness_2 rfl
theorem s13_5 {l : Launch} {G : KG} : kOpOK l G 13 5 (.inl (g_ald 0 6)) := snd_aload_n dX2_openness_5 rfl
theorem s13_6 {l : Launch} {G : KG} : kOpOK l G 13 6 (.inl (g_gfi 2 2 9)) := snd_gfi (c := 2) (j := 2) (N := 4) dX2_openness_6 rfl hin2 (by decide) rfl (by decide) rfl wF_2_23
theorem s13_9 {l : Launch} {G : KG} : kOpOK l G 13 9 (.inl (g_ild 1 10)) := snd_iload_n dX2_openness_9 rfl
theorem s13_10 {l : Launch} {G : KG} : kOpOK l G 13 10 (.inr (.inl (43, 2, 13))) := ⟨snd_callSN (host := RX3) (idx := 33) dX2_openness_10 rfl mok_43 rfl rfl (by decide +kernel) wS_X3_perThousand (by decide) ⟨rfl, rfl⟩, rfl, mok_43, by decide⟩
theorem s13_13 {l : Launch} {G : KG} : kOpOK l G 13 13 (.inl (g_iop (fun x y => x - y) 14)) := snd_isub dX2_openness_13
theorem s13_14 {l : Launch} {G : KG} : kOpOK l G 13 14 (.inl (g_imax 17)) := snd_imax dX2_openness_14 wM_2_37 wS_snd_imax wI_math wC_snd_imax (by decide) (by decide)
theorem s13_17 {l : Launch} {G : KG} : kOpOK l G 13 17 (.inr (.inr 1)) := ⟨rfl, Or.inr (Or.inl ⟨rfl, dX2_openness_17, rfl⟩)⟩
theorem s14_0 {l : Launch} {G : KG} : kOpOK l G 14 0 (.inl (g_ald 0 1)) := snd_aload_n dX2_dropOnto_0 rfl
theorem s14_1 {l : Launch} {G : KG} : kOpOK l G 14 1 (.inl (g_ild 2 2)) := snd_iload_n dX2_dropOnto_1 rfl
theorem s14_2 {l : Launch} {G : KG} : kOpOK l G 14 2 (.inr (.inl (13, 2, 5))) := ⟨snd_callV (c := 2) dX2_dropOnto_2 rfl mok_13 rfl rfl rfl rfl (by decide) rfl wM_2_42 wN_X2_openness wL_X2_openness wI_2 (by decide) ⟨rfl, rfl⟩, rfl, mok_13, by decide⟩
theorem s14_5 {l : Launch} {G : KG} : kOpOK l G 14 5 (.inl (g_ist 3 6)) := snd_istore_n dX2_dropOnto_5 rfl
theorem s14_6 {l : Launch} {G : KG} : kOpOK l G 14 6 (.inl (g_push 0 7)) := snd_iconst dX2_dropOnto_6 rfl
theorem s14_7 {l : Launch} {G : KG} : kOpOK l G 14 7 (.inl (g_ist 4 9)) := snd_istore dX2_dropOnto_7
theorem s14_9 {l : Launch} {G : KG} : kOpOK l G 14 9 (.inl (g_push 0 10)) := snd_iconst dX2_dropOnto_9 rfl
theorem s14_10 {l : Launch} {G : KG} : kOpOK l G 14 10 (.inl (g_ist 5 12)) := snd_istore dX2_dropOnto_10
theorem s14_12 {l : Launch} {G : KG} : kOpOK l G 14 12 (.inl (g_ild 5 14)) := snd_iload dX2_dropOnto_12
theorem s14_14 {l : Launch} {G : KG} : kOpOK l G 14 14 (.inl (g_ald 0 15)) := snd_aload_n dX2_dropOnto_14 rfl
theorem s14_15 {l : Launch} {G : KG} : kOpOK l G 14 15 (.inl (g_gfi 2 1 18)) := snd_gfi (c := 2) (j := 1) (N := 4) dX2_dropOnto_15 rfl hin2 (by decide) rfl (by decide) rfl wF_2_19
theorem s14_18 {l : Launch} {G : KG} : kOpOK l G 14 18 (.inl (g_br2 (fun x y => decide (y ≤ x)) 81 21)) := snd_icmp_ge dX2_dropOnto_18 (by decide)
theorem s14_21 {l : Launch} {G : KG} : kOpOK l G 14 21 (.inl (g_ald 0 22)) := snd_aload_n dX2_dropOnto_21 rfl
theorem s14_22 {l : Launch} {G : KG} : kOpOK l G 14 22 (.inl (g_gfr 2 0 25)) := snd_gfr (c := 2) (j := 0) (N := 4) dX2_dropOnto_22 rfl hin2 (by decide) rfl (by decide) rfl wF_2_9
theorem s14_25 {l : Launch} {G : KG} : kOpOK l G 14 25 (.inl (g_ild 5 27)) := snd_iload dX2_dropOnto_25
theorem s14_27 {l : Launch} {G : KG} : kOpOK l G 14 27 (.inl (g_pald 5 28)) := snd_pald5 dX2_dropOnto_27
theorem s14_28 {l : Launch} {G : KG} : kOpOK l G 14 28 (.inl (g_ild 3 29)) := snd_iload_n dX2_dropOnto_28 rfl
theorem s14_29 {l : Launch} {G : KG} : kOpOK l G 14 29 (.inl (g_ald 0 30)) := snd_aload_n dX2_dropOnto_29 rfl
theorem s14_30 {l : Launch} {G : KG} : kOpOK l G 14 30 (.inl (g_gfi 2 1 33)) := snd_gfi (c := 2) (j := 1) (N := 4) dX2_dropOnto_30 rfl hin2 (by decide) rfl (by decide) rfl wF_2_19
theorem s14_33 {l : Launch} {G : KG} : kOpOK l G 14 33 (.inl (g_ild 5 35)) := snd_iload dX2_dropOnto_33
theorem s14_35 {l : Launch} {G : KG} : kOpOK l G 14 35 (.inl (g_iop (fun x y => x - y) 36)) := snd_isub dX2_dropOnto_35
theorem s14_36 {l : Launch} {G : KG} : kOpOK l G 14 36 (.inr (.inl (17, 1, 39))) := ⟨snd_callS dX2_dropOnto_36 rfl mok_17 rfl rfl rfl wM_2_46 wS_X2_easeOf wI_2 (by decide) ⟨rfl, rfl⟩, rfl, mok_17, by decide⟩
theorem s14_39 {l : Launch} {G : KG} : kOpOK l G 14 39 (.inr (.inl (16, 3, 42))) := ⟨snd_callS dX2_dropOnto_39 rfl mok_16 rfl rfl rfl wM_2_49 wS_X2_fallingOf wI_2 (by decide) ⟨rfl, rfl⟩, rfl, mok_16, by decide⟩
theorem s14_42 {l : Launch} {G : KG} : kOpOK l G 14 42 (.inl (g_ist 6 44)) := snd_istore dX2_dropOnto_42
theorem s14_44 {l : Launch} {G : KG} : kOpOK l G 14 44 (.inl (g_ald 0 45)) := snd_aload_n dX2_dropOnto_44 rfl
theorem s14_45 {l : Launch} {G : KG} : kOpOK l G 14 45 (.inl (g_gfr 2 0 48)) := snd_gfr (c := 2) (j := 0) (N := 4) dX2_dropOnto_45 rfl hin2 (by decide) rfl (by decide) rfl wF_2_9
theorem s14_48 {l : Launch} {G : KG} : kOpOK l G 14 48 (.inl (g_ild 5 50)) := snd_iload dX2_dropOnto_48
theorem s14_50 {l : Launch} {G : KG} : kOpOK l G 14 50 (.inl (g_dup2 51)) := snd_dup2 dX2_dropOnto_50
theorem s14_51 {l : Launch} {G : KG} : kOpOK l G 14 51 (.inl (g_pald 5 52)) := snd_pald5 dX2_dropOnto_51
theorem s14_52 {l : Launch} {G : KG} : kOpOK l G 14 52 (.inl (g_ild 6 54)) := snd_iload dX2_dropOnto_52
theorem s14_54 {l : Launch} {G : KG} : kOpOK l G 14 54 (.inl (g_iop (fun x y => x - y) 55)) := snd_isub dX2_dropOnto_54
theorem s14_55 {l : Launch} {G : KG} : kOpOK l G 14 55 (.inl (g_past 5 56)) := snd_past5 dX2_dropOnto_55
theorem s14_56 {l : Launch} {G : KG} : kOpOK l G 14 56 (.inl (g_ald 1 57)) := snd_aload_n dX2_dropOnto_56 rfl
theorem s14_57 {l : Launch} {G : KG} : kOpOK l G 14 57 (.inl (g_gfr 2 0 60)) := snd_gfr (c := 2) (j := 0) (N := 4) dX2_dropOnto_57 rfl hin2 (by decide) rfl (by decide) rfl wF_2_9
theorem s14_60 {l : Launch} {G : KG} : kOpOK l G 14 60 (.inl (g_ild 5 62)) := snd_iload dX2_dropOnto_60
theorem s14_62 {l : Launch} {G : KG} : kOpOK l G 14 62 (.inl (g_dup2 63)) := snd_dup2 dX2_dropOnto_62
theorem s14_63 {l : Launch} {G : KG} : kOpOK l G 14 63 (.inl (g_pald 5 64)) := snd_pald5 dX2_dropOnto_63
theorem s14_64 {l : Launch} {G : KG} : kOpOK l G 14 64 (.inl (g_ild 6 66)) := snd_iload dX2_dropOnto_64
theorem s14_66 {l : Launch} {G : KG} : kOpOK l G 14 66 (.inl (g_iop (fun x y => x + y) 67)) := snd_iadd dX2_dropOnto_66
theorem s14_67 {l : Launch} {G : KG} : kOpOK l G 14 67 (.inl (g_past 5 68)) := snd_past5 dX2_dropOnto_67
theorem s14_68 {l : Launch} {G : KG} : kOpOK l G 14 68 (.inl (g_ild 4 70)) := snd_iload dX2_dropOnto_68
theorem s14_70 {l : Launch} {G : KG} : kOpOK l G 14 70 (.inl (g_ild 6 72)) := snd_iload dX2_dropOnto_70
theorem s14_72 {l : Launch} {G : KG} : kOpOK l G 14 72 (.inl (g_iop (fun x y => x + y) 73)) := snd_iadd dX2_dropOnto_72
theorem s14_73 {l : Launch} {G : KG} : kOpOK l G 14 73 (.inl (g_ist 4 75)) := snd_istore dX2_dropOnto_73
theorem s14_75 {l : Launch} {G : KG} : kOpOK l G 14 75 (.inl (g_iinc 5 1 78)) := snd_iinc dX2_dropOnto_75 rfl
theorem s14_78 {l : Launch} {G : KG} : kOpOK l G 14 78 (.inl (g_goto 12)) := snd_goto dX2_dropOnto_78 (by decide)
theorem s14_81 {l : Launch} {G : KG} : kOpOK l G 14 81 (.inl (g_ild 4 83)) := snd_iload dX2_dropOnto_81
theorem s14_83 {l : Launch} {G : KG} : kOpOK l G 14 83 (.inr (.inr 1)) := ⟨rfl, Or.inr (Or.inl ⟨rfl, dX2_dropOnto_83, rfl⟩)⟩
theorem s15_0 {l : Launch} {G : KG} : kOpOK l G 15 0 (.inl (g_ald 0 1)) := snd_aload_n dX2_blind_0 rfl
theorem s15_1 {l : Launch} {G : KG} : kOpOK l G 15 1 (.inl (g_gfr 2 0 4)) := snd_gfr (c := 2) (j := 0) (N := 4) dX2_blind_1 rfl hin2 (by decide) rfl (by decide) rfl wF_2_9
theorem s15_4 {l : Launch} {G : KG} : kOpOK l G 15 4 (.inl (g_ald 0 5)) := snd_aload_n dX2_blind_4 rfl
theorem s15_5 {l : Launch} {G : KG} : kOpOK l G 15 5 (.inl (g_gfi 2 1 8)) := snd_gfi (c := 2) (j := 1) (N := 4) dX2_blind_5 rfl hin2 (by decide) rfl (by decide) rfl wF_2_19
theorem s15_8 {l : Launch} {G : KG} : kOpOK l G 15 8 (.inl (g_pald 5 9)) := snd_pald5 dX2_blind_8
theorem s15_9 {l : Launch} {G : KG} : kOpOK l G 15 9 (.inl (g_ild 1 10)) := snd_iload_n dX2_blind_9 rfl
theorem s15_10 {l : Launch} {G : KG} : kOpOK l G 15 10 (.inl (g_iop (fun x y => x * y) 11)) := snd_imul dX2_blind_10
theorem s15_11 {l : Launch} {G : KG} : kOpOK l G 15 11 (.inl (g_push 1000 14)) := snd_sipush dX2_blind_11 rfl
theorem s15_14 {l : Launch} {G : KG} : kOpOK l G 15 14 (.inl (g_idiv (fun x y => x / y) 15)) := snd_idiv dX2_blind_14
theorem s15_15 {l : Launch} {G : KG} : kOpOK l G 15 15 (.inl (g_ist 2 16)) := snd_istore_n dX2_blind_15 rfl
theorem s15_16 {l : Launch} {G : KG} : kOpOK l G 15 16 (.inl (g_ald 0 17)) := snd_aload_n dX2_blind_16 rfl
theorem s15_17 {l : Launch} {G : KG} : kOpOK l G 15 17 (.inl (g_gfr 2 0 20)) := snd_gfr (c := 2) (j := 0) (N := 4) dX2_blind_17 rfl hin2 (by decide) rfl (by decide) rfl wF_2_9
theorem s15_20 {l : Launch} {G : KG} : kOpOK l G 15 20 (.inl (g_ald 0 21)) := snd_aload_n dX2_blind_20 rfl
theorem s15_21 {l : Launch} {G : KG} : kOpOK l G 15 21 (.inl (g_gfi 2 1 24)) := snd_gfi (c := 2) (j := 1) (N := 4) dX2_blind_21 rfl hin2 (by decide) rfl (by decide) rfl wF_2_19
theorem s15_24 {l : Launch} {G : KG} : kOpOK l G 15 24 (.inl (g_dup2 25)) := snd_dup2 dX2_blind_24
theorem s15_25 {l : Launch} {G : KG} : kOpOK l G 15 25 (.inl (g_pald 5 26)) := snd_pald5 dX2_blind_25
theorem s15_26 {l : Launch} {G : KG} : kOpOK l G 15 26 (.inl (g_ild 2 27)) := snd_iload_n dX2_blind_26 rfl
theorem s15_27 {l : Launch} {G : KG} : kOpOK l G 15 27 (.inl (g_iop (fun x y => x - y) 28)) := snd_isub dX2_blind_27
theorem s15_28 {l : Launch} {G : KG} : kOpOK l G 15 28 (.inl (g_past 5 29)) := snd_past5 dX2_blind_28
theorem s15_29 {l : Launch} {G : KG} : kOpOK l G 15 29 (.inl (g_ald 0 30)) := snd_aload_n dX2_blind_29 rfl
theorem s15_30 {l : Launch} {G : KG} : kOpOK l G 15 30 (.inl (g_dup 31)) := snd_dup dX2_blind_30
theorem s15_31 {l : Launch} {G : KG} : kOpOK l G 15 31 (.inl (g_gfi 2 2 34)) := snd_gfi (c := 2) (j := 2) (N := 4) dX2_blind_31 rfl hin2 (by decide) rfl (by decide) rfl wF_2_23
theorem s15_34 {l : Launch} {G : KG} : kOpOK l G 15 34 (.inl (g_ild 2 35)) := snd_iload_n dX2_blind_34 rfl
theorem s15_35 {l : Launch} {G : KG} : kOpOK l G 15 35 (.inl (g_iop (fun x y => x + y) 36)) := snd_iadd dX2_blind_35
theorem s15_36 {l : Launch} {G : KG} : kOpOK l G 15 36 (.inl (g_pfi 2 2 39)) := snd_pfi (c := 2) (j := 2) (N := 4) dX2_blind_36 rfl hin2 (by decide) rfl (by decide) rfl wF_2_23 tyX2 tyX2_ok nmX2 rfl (by decide +kernel)
theorem s15_39 {l : Launch} {G : KG} : kOpOK l G 15 39 (.inr (.inr 0)) := ⟨rfl, Or.inl ⟨rfl, dX2_blind_39, rfl⟩⟩
theorem s16_0 {l : Launch} {G : KG} : kOpOK l G 16 0 (.inl (g_ild 0 1)) := snd_iload_n dX2_fallingOf_0 rfl
theorem s16_1 {l : Launch} {G : KG} : kOpOK l G 16 1 (.inl (g_br1 (fun x => decide (¬ x = 0)) 6 4)) := snd_if_ne dX2_fallingOf_1 (by decide)
theorem s16_4 {l : Launch} {G : KG} : kOpOK l G 16 4 (.inl (g_push 0 5)) := snd_iconst dX2_fallingOf_4 rfl
theorem s16_5 {l : Launch} {G : KG} : kOpOK l G 16 5 (.inr (.inr 1)) := ⟨rfl, Or.inr (Or.inl ⟨rfl, dX2_fallingOf_5, rfl⟩)⟩
theorem s16_6 {l : Launch} {G : KG} : kOpOK l G 16 6 (.inl (g_pushl 1 7)) := snd_lconst dX2_fallingOf_6 rfl
theorem s16_7 {l : Launch} {G : KG} : kOpOK l G 16 7 (.inl (g_ild 0 8)) := snd_iload_n dX2_fallingOf_7 rfl
theorem s16_8 {l : Launch} {G : KG} : kOpOK l G 16 8 (.inl (g_i2l 9)) := snd_i2l dX2_fallingOf_8
theorem s16_9 {l : Launch} {G : KG} : kOpOK l G 16 9 (.inl (g_ild 1 10)) := snd_iload_n dX2_fallingOf_9 rfl
theorem s16_10 {l : Launch} {G : KG} : kOpOK l G 16 10 (.inl (g_i2l 11)) := snd_i2l dX2_fallingOf_10
theorem s16_11 {l : Launch} {G : KG} : kOpOK l G 16 11 (.inl (g_lop (fun x y => x * y) 12)) := snd_lmul dX2_fallingOf_11
theorem s16_12 {l : Launch} {G : KG} : kOpOK l G 16 12 (.inl (g_ild 2 13)) := snd_iload_n dX2_fallingOf_12 rfl
theorem s16_13 {l : Launch} {G : KG} : kOpOK l G 16 13 (.inl (g_i2l 14)) := snd_i2l dX2_fallingOf_13
theorem s16_14 {l : Launch} {G : KG} : kOpOK l G 16 14 (.inl (g_lop (fun x y => x * y) 15)) := snd_lmul dX2_fallingOf_14
theorem s16_15 {l : Launch} {G : KG} : kOpOK l G 16 15 (.inl (g_pushl 1000000 18)) := snd_ldc2 dX2_fallingOf_15 wK_2_53
theorem s16_18 {l : Launch} {G : KG} : kOpOK l G 16 18 (.inl (g_ldiv 19)) := snd_ldiv dX2_fallingOf_18
theorem s16_19 {l : Launch} {G : KG} : kOpOK l G 16 19 (.inl (g_lmax 22)) := snd_lmax dX2_fallingOf_19 wM_2_55 wS_snd_lmax wI_math wC_snd_lmax (by decide) (by decide)
theorem s16_22 {l : Launch} {G : KG} : kOpOK l G 16 22 (.inl (g_l2i 23)) := snd_l2i dX2_fallingOf_22
theorem s16_23 {l : Launch} {G : KG} : kOpOK l G 16 23 (.inr (.inr 1)) := ⟨rfl, Or.inr (Or.inl ⟨rfl, dX2_fallingOf_23, rfl⟩)⟩
theorem s17_0 {l : Launch} {G : KG} : kOpOK l G 17 0 (.inl (g_ild 0 1)) := snd_iload_n dX2_easeOf_0 rfl
theorem s17_1 {l : Launch} {G : KG} : kOpOK l G 17 1 (.inl (g_lsw2 1 2 28 32 36)) := snd_lsw2 dX2_easeOf_1 (by decide) (by decide) (by decide) rfl rfl (by decide)
theorem s17_28 {l : Launch} {G : KG} : kOpOK l G 17 28 (.inl (g_push 300 31)) := snd_sipush dX2_easeOf_28 rfl
theorem s17_31 {l : Launch} {G : KG} : kOpOK l G 17 31 (.inr (.inr 1)) := ⟨rfl, Or.inr (Or.inl ⟨rfl, dX2_easeOf_31, rfl⟩)⟩
theorem s17_32 {l : Launch} {G : KG} : kOpOK l G 17 32 (.inl (g_push 600 35)) := snd_sipush dX2_easeOf_32 rfl
theorem s17_35 {l : Launch} {G : KG} : kOpOK l G 17 35 (.inr (.inr 1)) := ⟨rfl, Or.inr (Or.inl ⟨rfl, dX2_easeOf_35, rfl⟩)⟩
theorem s17_36 {l : Launch} {G : KG} : kOpOK l G 17 36 (.inl (g_push 900 39)) := snd_sipush dX2_easeOf_36 rfl
theorem s17_39 {l : Launch} {G : KG} : kOpOK l G 17 39 (.inr (.inr 1)) := ⟨rfl, Or.inr (Or.inl ⟨rfl, dX2_easeOf_39, rfl⟩)⟩
theorem s18_0 {l : Launch} {G : KG} : kOpOK l G 18 0 (.inl (g_ild 1 1)) := snd_iload_n dX3_setMass_0 rfl
theorem s18_1 {l : Launch} {G : KG} : kOpOK l G 18 1 (.inr (.inl (38, 1, 4))) := ⟨snd_callS dX3_setMass_1 rfl mok_38 rfl rfl rfl wM_3_30 wS_X3_isClass wI_3 (by decide) ⟨rfl, rfl⟩, rfl, mok_38, by decide⟩
theorem s18_4 {l : Launch} {G : KG} : kOpOK l G 18 4 (.inl (g_br1 (fun x => decide (x = 0)) 18 7)) := snd_if_eq dX3_setMass_4 (by decide)
theorem s18_7 {l : Launch} {G : KG} : kOpOK l G 18 7 (.inl (g_ild 2 8)) := snd_iload_n dX3_setMass_7 rfl
theorem s18_8 {l : Launch} {G : KG} : kOpOK l G 18 8 (.inl (g_push 0 9)) := snd_iconst dX3_setMass_8 rfl
theorem s18_9 {l : Launch} {G : KG} : kOpOK l G 18 9 (.inl (g_push 9999 12)) := snd_sipush dX3_setMass_9 rfl
theorem s18_12 {l : Launch} {G : KG} : kOpOK l G 18 12 (.inr (.inl (37, 3, 15))) := ⟨snd_callS dX3_setMass_12 rfl mok_37 rfl rfl rfl wM_3_34 wS_X3_isIn wI_3 (by decide) ⟨rfl, rfl⟩, rfl, mok_37, by decide⟩
theorem s18_15 {l : Launch} {G : KG} : kOpOK l G 18 15 (.inl (g_br1 (fun x => decide (¬ x = 0)) 20 18)) := snd_if_ne dX3_setMass_15 (by decide)
theorem s18_18 {l : Launch} {G : KG} : kOpOK l G 18 18 (.inl (g_push (-1) 19)) := snd_iconst dX3_setMass_18 rfl
theorem s18_19 {l : Launch} {G : KG} : kOpOK l G 18 19 (.inr (.inr 1)) := ⟨rfl, Or.inr (Or.inl ⟨rfl, dX3_setMass_19, rfl⟩)⟩
theorem s18_20 {l : Launch} {G : KG} : kOpOK l G 18 20 (.inl (g_ald 0 21)) := snd_aload_n dX3_setMass_20 rfl
theorem s18_21 {l : Launch} {G : KG} : kOpOK l G 18 21 (.inr (.inl (36, 1, 24))) := ⟨snd_callV (c := 3) dX3_setMass_21 rfl mok_36 rfl rfl rfl rfl (by decide) rfl wM_3_38 wN_X3_saveState wL_X3_saveState wI_3 (by decide) ⟨rfl, rfl⟩, rfl, mok_36, by decide⟩
theorem s18_24 {l : Launch} {G : KG} : kOpOK l G 18 24 (.inl (g_ald 0 25)) := snd_aload_n dX3_setMass_24 rfl
theorem s18_25 {l : Launch} {G : KG} : kOpOK l G 18 25 (.inl (g_gfr 3 0 28)) := snd_gfr (c := 3) (j := 0) (N := 6) dX3_setMass_25 rfl hin3 (by decide) rfl (by decide) rfl wF_3_10
theorem s18_28 {l : Launch} {G : KG} : kOpOK l G 18 28 (.inl (g_gfr 1 0 31)) := snd_gfr (c := 1) (j := 0) (N := 14) dX3_setMass_28 rfl hin1 (by decide) rfl (by decide) rfl wF_3_41
theorem s18_31 {l : Launch} {G : KG} : kOpOK l G 18 31 (.inl (g_ild 1 32)) := snd_iload_n dX3_setMass_31 rfl
theorem s18_32 {l : Launch} {G : KG} : kOpOK l G 18 32 (.inl (g_pald 5 33)) := snd_pald5 dX3_setMass_32
theorem s18_33 {l : Launch} {G : KG} : kOpOK l G 18 33 (.inl (g_ist 3 34)) := snd_istore_n dX3_setMass_33 rfl
theorem s18_34 {l : Launch} {G : KG} : kOpOK l G 18 34 (.inl (g_ald 0 35)) := snd_aload_n dX3_setMass_34 rfl
theorem s18_35 {l : Launch} {G : KG} : kOpOK l G 18 35 (.inl (g_gfr 3 0 38)) := snd_gfr (c := 3) (j := 0) (N := 6) dX3_setMass_35 rfl hin3 (by decide) rfl (by decide) rfl wF_3_10
theorem s18_38 {l : Launch} {G : KG} : kOpOK l G 18 38 (.inl (g_gfr 1 0 41)) := snd_gfr (c := 1) (j := 0) (N := 14) dX3_setMass_38 rfl hin1 (by decide) rfl (by decide) rfl wF_3_41
theorem s18_41 {l : Launch} {G : KG} : kOpOK l G 18 41 (.inl (g_ild 1 42)) := snd_iload_n dX3_setMass_41 rfl
theorem s18_42 {l : Launch} {G : KG} : kOpOK l G 18 42 (.inl (g_ild 2 43)) := snd_iload_n dX3_setMass_42 rfl
theorem s18_43 {l : Launch} {G : KG} : kOpOK l G 18 43 (.inl (g_past 5 44)) := snd_past5 dX3_setMass_43
theorem s18_44 {l : Launch} {G : KG} : kOpOK l G 18 44 (.inl (g_ild 3 45)) := snd_iload_n dX3_setMass_44 rfl
theorem s18_45 {l : Launch} {G : KG} : kOpOK l G 18 45 (.inr (.inr 1)) := ⟨rfl, Or.inr (Or.inl ⟨rfl, dX3_setMass_45, rfl⟩)⟩
theorem s19_0 {l : Launch} {G : KG} : kOpOK l G 19 0 (.inl (g_ald 0 1)) := snd_aload_n dX3_mass_0 rfl
theorem s19_1 {l : Launch} {G : KG} : kOpOK l G 19 1 (.inl (g_gfr 3 0 4)) := snd_gfr (c := 3) (j := 0) (N := 6) dX3_mass_1 rfl hin3 (by decide) rfl (by decide) rfl wF_3_10
theorem s19_4 {l : Launch} {G : KG} : kOpOK l G 19 4 (.inl (g_gfr 1 0 7)) := snd_gfr (c := 1) (j := 0) (N := 14) dX3_mass_4 rfl hin1 (by decide) rfl (by decide) rfl wF_3_41
theorem s19_7 {l : Launch} {G : KG} : kOpOK l G 19 7 (.inl (g_ild 1 8)) := snd_iload_n dX3_mass_7 rfl
theorem s19_8 {l : Launch} {G : KG} : kOpOK l G 19 8 (.inr (.inl (39, 2, 11))) := ⟨snd_callS dX3_mass_8 rfl mok_39 rfl rfl rfl wM_3_45 wS_X3_massIn wI_3 (by decide) ⟨rfl, rfl⟩, rfl, mok_39, by decide⟩
theorem s19_11 {l : Launch} {G : KG} : kOpOK l G 19 11 (.inr (.inr 1)) := ⟨rfl, Or.inr (Or.inl ⟨rfl, dX3_mass_11, rfl⟩)⟩
theorem s20_0 {l : Launch} {G : KG} : kOpOK l G 20 0 (.inl (g_ald 0 1)) := snd_aload_n dX3_reserve_0 rfl
theorem s20_1 {l : Launch} {G : KG} : kOpOK l G 20 1 (.inl (g_gfr 3 0 4)) := snd_gfr (c := 3) (j := 0) (N := 6) dX3_reserve_1 rfl hin3 (by decide) rfl (by decide) rfl wF_3_10
theorem s20_4 {l : Launch} {G : KG} : kOpOK l G 20 4 (.inl (g_gfr 1 1 7)) := snd_gfr (c := 1) (j := 1) (N := 14) dX3_reserve_4 rfl hin1 (by decide) rfl (by decide) rfl wF_3_49
theorem s20_7 {l : Launch} {G : KG} : kOpOK l G 20 7 (.inl (g_ild 1 8)) := snd_iload_n dX3_reserve_7 rfl
theorem s20_8 {l : Launch} {G : KG} : kOpOK l G 20 8 (.inr (.inl (39, 2, 11))) := ⟨snd_callS dX3_reserve_8 rfl mok_39 rfl rfl rfl wM_3_45 wS_X3_massIn wI_3 (by decide) ⟨rfl, rfl⟩, rfl, mok_39, by decide⟩
theorem s20_11 {l : Launch} {G : KG} : kOpOK l G 20 11 (.inr (.inr 1)) := ⟨rfl, Or.inr (Or.inl ⟨rfl, dX3_reserve_11, rfl⟩)⟩
theorem s21_0 {l : Launch} {G : KG} : kOpOK l G 21 0 (.inl (g_ild 1 1)) := snd_iload_n dX3_split_0 rfl
theorem s21_1 {l : Launch} {G : KG} : kOpOK l G 21 1 (.inl (g_push 0 2)) := snd_iconst dX3_split_1 rfl
theorem s21_2 {l : Launch} {G : KG} : kOpOK l G 21 2 (.inl (g_push 1 3)) := snd_iconst dX3_split_2 rfl
theorem s21_3 {l : Launch} {G : KG} : kOpOK l G 21 3 (.inr (.inl (37, 3, 6))) := ⟨snd_callS dX3_split_3 rfl mok_37 rfl rfl rfl wM_3_34 wS_X3_isIn wI_3 (by decide) ⟨rfl, rfl⟩, rfl, mok_37, by decide⟩
theorem s21_6 {l : Launch} {G : KG} : kOpOK l G 21 6 (.inl (g_br1 (fun x => decide (¬ x = 0)) 11 9)) := snd_if_ne dX3_split_6 (by decide)
theorem s21_9 {l : Launch} {G : KG} : kOpOK l G 21 9 (.inl (g_push (-1) 10)) := snd_iconst dX3_split_9 rfl
theorem s21_10 {l : Launch} {G : KG} : kOpOK l G 21 10 (.inr (.inr 1)) := ⟨rfl, Or.inr (Or.inl ⟨rfl, dX3_split_10, rfl⟩)⟩
theorem s21_11 {l : Launch} {G : KG} : kOpOK l G 21 11 (.inl (g_ald 0 12)) := snd_aload_n dX3_split_11 rfl
theorem s21_12 {l : Launch} {G : KG} : kOpOK l G 21 12 (.inl (g_gfr 3 0 15)) := snd_gfr (c := 3) (j := 0) (N := 6) dX3_split_12 rfl hin3 (by decide) rfl (by decide) rfl wF_3_10
theorem s21_15 {l : Launch} {G : KG} : kOpOK l G 21 15 (.inl (g_gfr 1 0 18)) := snd_gfr (c := 1) (j := 0) (N := 14) dX3_split_15 rfl hin1 (by decide) rfl (by decide) rfl wF_3_41
theorem s21_18 {l : Launch} {G : KG} : kOpOK l G 21 18 (.inr (.inl (40, 1, 21))) := ⟨snd_callS dX3_split_18 rfl mok_40 rfl rfl rfl wM_3_52 wS_X3_sumOf wI_3 (by decide) ⟨rfl, rfl⟩, rfl, mok_40, by decide⟩
theorem s21_21 {l : Launch} {G : KG} : kOpOK l G 21 21 (.inl (g_br1 (fun x => decide (¬ x = 0)) 27 24)) := snd_if_ne dX3_split_21 (by decide)
theorem s21_24 {l : Launch} {G : KG} : kOpOK l G 21 24 (.inl (g_push (-2) 26)) := snd_bipush dX3_split_24 rfl
theorem s21_26 {l : Launch} {G : KG} : kOpOK l G 21 26 (.inr (.inr 1)) := ⟨rfl, Or.inr (Or.inl ⟨rfl, dX3_split_26, rfl⟩)⟩
theorem s21_27 {l : Launch} {G : KG} : kOpOK l G 21 27 (.inl (g_ald 0 28)) := snd_aload_n dX3_split_27 rfl
theorem s21_28 {l : Launch} {G : KG} : kOpOK l G 21 28 (.inr (.inl (36, 1, 31))) := ⟨snd_callV (c := 3) dX3_split_28 rfl mok_36 rfl rfl rfl rfl (by decide) rfl wM_3_38 wN_X3_saveState wL_X3_saveState wI_3 (by decide) ⟨rfl, rfl⟩, rfl, mok_36, by decide⟩
theorem s21_31 {l : Launch} {G : KG} : kOpOK l G 21 31 (.inl (g_ald 0 32)) := snd_aload_n dX3_split_31 rfl
theorem s21_32 {l : Launch} {G : KG} : kOpOK l G 21 32 (.inl (g_gfr 3 0 35)) := snd_gfr (c := 3) (j := 0) (N := 6) dX3_split_32 rfl hin3 (by decide) rfl (by decide) rfl wF_3_10
theorem s21_35 {l : Launch} {G : KG} : kOpOK l G 21 35 (.inl (g_ild 1 36)) := snd_iload_n dX3_split_35 rfl
theorem s21_36 {l : Launch} {G : KG} : kOpOK l G 21 36 (.inl (g_br1 (fun x => decide (¬ x = 0)) 43 39)) := snd_if_ne dX3_split_36 (by decide)
theorem s21_39 {l : Launch} {G : KG} : kOpOK l G 21 39 (.inl (g_push 1 40)) := snd_iconst dX3_split_39 rfl
theorem s21_40 {l : Launch} {G : KG} : kOpOK l G 21 40 (.inl (g_goto 44)) := snd_goto dX3_split_40 (by decide)
theorem s21_43 {l : Launch} {G : KG} : kOpOK l G 21 43 (.inl (g_push 0 44)) := snd_iconst dX3_split_43 rfl
theorem s21_44 {l : Launch} {G : KG} : kOpOK l G 21 44 (.inr (.inl (3, 2, 47))) := ⟨snd_callV (c := 1) dX3_split_44 rfl mok_3 rfl rfl rfl rfl (by decide) rfl wM_3_56 wN_X1_halveSample wL_X1_halveSample wI_1 (by decide) ⟨rfl, rfl⟩, rfl, mok_3, by decide⟩
theorem s21_47 {l : Launch} {G : KG} : kOpOK l G 21 47 (.inl (g_ald 0 48)) := snd_aload_n dX3_split_47 rfl
theorem s21_48 {l : Launch} {G : KG} : kOpOK l G 21 48 (.inl (g_gfr 3 0 51)) := snd_gfr (c := 3) (j := 0) (N := 6) dX3_split_48 rfl hin3 (by decide) rfl (by decide) rfl wF_3_10
theorem s21_51 {l : Launch} {G : KG} : kOpOK l G 21 51 (.inl (g_gfr 1 0 54)) := snd_gfr (c := 1) (j := 0) (N := 14) dX3_split_51 rfl hin1 (by decide) rfl (by decide) rfl wF_3_41
theorem s21_54 {l : Launch} {G : KG} : kOpOK l G 21 54 (.inr (.inl (40, 1, 57))) := ⟨snd_callS dX3_split_54 rfl mok_40 rfl rfl rfl wM_3_52 wS_X3_sumOf wI_3 (by decide) ⟨rfl, rfl⟩, rfl, mok_40, by decide⟩
theorem s21_57 {l : Launch} {G : KG} : kOpOK l G 21 57 (.inr (.inr 1)) := ⟨rfl, Or.inr (Or.inl ⟨rfl, dX3_split_57, rfl⟩)⟩
theorem s22_0 {l : Launch} {G : KG} : kOpOK l G 22 0 (.inl (g_push 0 1)) := snd_iconst dX3_combine_0 rfl
theorem s22_1 {l : Launch} {G : KG} : kOpOK l G 22 1 (.inl (g_ist 1 2)) := snd_istore_n dX3_combine_1 rfl
theorem s22_2 {l : Launch} {G : KG} : kOpOK l G 22 2 (.inl (g_ild 1 3)) := snd_iload_n dX3_combine_2 rfl
theorem s22_3 {l : Launch} {G : KG} : kOpOK l G 22 3 (.inl (g_push 10 5)) := snd_bipush dX3_combine_3 rfl
theorem s22_5 {l : Launch} {G : KG} : kOpOK l G 22 5 (.inl (g_br2 (fun x y => decide (y ≤ x)) 42 8)) := snd_icmp_ge dX3_combine_5 (by decide)
theorem s22_8 {l : Launch} {G : KG} : kOpOK l G 22 8 (.inl (g_ald 0 9)) := snd_aload_n dX3_combine_8 rfl
theorem s22_9 {l : Launch} {G : KG} : kOpOK l G 22 9 (.inl (g_gfr 3 0 12)) := snd_gfr (c := 3) (j := 0) (N := 6) dX3_combine_9 rfl hin3 (by decide) rfl (by decide) rfl wF_3_10
theorem s22_12 {l : Launch} {G : KG} : kOpOK l G 22 12 (.inl (g_gfr 1 0 15)) := snd_gfr (c := 1) (j := 0) (N := 14) dX3_combine_12 rfl hin1 (by decide) rfl (by decide) rfl wF_3_41
theorem s22_15 {l : Launch} {G : KG} : kOpOK l G 22 15 (.inl (g_ild 1 16)) := snd_iload_n dX3_combine_15 rfl
theorem s22_16 {l : Launch} {G : KG} : kOpOK l G 22 16 (.inl (g_pald 5 17)) := snd_pald5 dX3_combine_16
theorem s22_17 {l : Launch} {G : KG} : kOpOK l G 22 17 (.inl (g_ald 0 18)) := snd_aload_n dX3_combine_17 rfl
theorem s22_18 {l : Launch} {G : KG} : kOpOK l G 22 18 (.inl (g_gfr 3 0 21)) := snd_gfr (c := 3) (j := 0) (N := 6) dX3_combine_18 rfl hin3 (by decide) rfl (by decide) rfl wF_3_10
theorem s22_21 {l : Launch} {G : KG} : kOpOK l G 22 21 (.inl (g_gfr 1 1 24)) := snd_gfr (c := 1) (j := 1) (N := 14) dX3_combine_21 rfl hin1 (by decide) rfl (by decide) rfl wF_3_49
theorem s22_24 {l : Launch} {G : KG} : kOpOK l G 22 24 (.inl (g_ild 1 25)) := snd_iload_n dX3_combine_24 rfl
theorem s22_25 {l : Launch} {G : KG} : kOpOK l G 22 25 (.inl (g_pald 5 26)) := snd_pald5 dX3_combine_25
theorem s22_26 {l : Launch} {G : KG} : kOpOK l G 22 26 (.inl (g_iop (fun x y => x + y) 27)) := snd_iadd dX3_combine_26
theorem s22_27 {l : Launch} {G : KG} : kOpOK l G 22 27 (.inl (g_push 9999 30)) := snd_sipush dX3_combine_27 rfl
theorem s22_30 {l : Launch} {G : KG} : kOpOK l G 22 30 (.inl (g_br2 (fun x y => decide (x ≤ y)) 36 33)) := snd_icmp_le dX3_combine_30 (by decide)
theorem s22_33 {l : Launch} {G : KG} : kOpOK l G 22 33 (.inl (g_push (-3) 35)) := snd_bipush dX3_combine_33 rfl
theorem s22_35 {l : Launch} {G : KG} : kOpOK l G 22 35 (.inr (.inr 1)) := ⟨rfl, Or.inr (Or.inl ⟨rfl, dX3_combine_35, rfl⟩)⟩
theorem s22_36 {l : Launch} {G : KG} : kOpOK l G 22 36 (.inl (g_iinc 1 1 39)) := snd_iinc dX3_combine_36 rfl
theorem s22_39 {l : Launch} {G : KG} : kOpOK l G 22 39 (.inl (g_goto 2)) := snd_goto dX3_combine_39 (by decide)
theorem s22_42 {l : Launch} {G : KG} : kOpOK l G 22 42 (.inl (g_ald 0 43)) := snd_aload_n dX3_combine_42 rfl
theorem s22_43 {l : Launch} {G : KG} : kOpOK l G 22 43 (.inr (.inl (36, 1, 46))) := ⟨snd_callV (c := 3) dX3_combine_43 rfl mok_36 rfl rfl rfl rfl (by decide) rfl wM_3_38 wN_X3_saveState wL_X3_saveState wI_3 (by decide) ⟨rfl, rfl⟩, rfl, mok_36, by decide⟩
theorem s22_46 {l : Launch} {G : KG} : kOpOK l G 22 46 (.inl (g_push 0 47)) := snd_iconst dX3_combine_46 rfl
theorem s22_47 {l : Launch} {G : KG} : kOpOK l G 22 47 (.inl (g_ist 1 48)) := snd_istore_n dX3_combine_47 rfl
theorem s22_48 {l : Launch} {G : KG} : kOpOK l G 22 48 (.inl (g_ild 1 49)) := snd_iload_n dX3_combine_48 rfl
theorem s22_49 {l : Launch} {G : KG} : kOpOK l G 22 49 (.inl (g_push 10 51)) := snd_bipush dX3_combine_49 rfl
theorem s22_51 {l : Launch} {G : KG} : kOpOK l G 22 51 (.inl (g_br2 (fun x y => decide (y ≤ x)) 91 54)) := snd_icmp_ge dX3_combine_51 (by decide)
theorem s22_54 {l : Launch} {G : KG} : kOpOK l G 22 54 (.inl (g_ald 0 55)) := snd_aload_n dX3_combine_54 rfl
theorem s22_55 {l : Launch} {G : KG} : kOpOK l G 22 55 (.inl (g_gfr 3 0 58)) := snd_gfr (c := 3) (j := 0) (N := 6) dX3_combine_55 rfl hin3 (by decide) rfl (by decide) rfl wF_3_10
theorem s22_58 {l : Launch} {G : KG} : kOpOK l G 22 58 (.inl (g_gfr 1 0 61)) := snd_gfr (c := 1) (j := 0) (N := 14) dX3_combine_58 rfl hin1 (by decide) rfl (by decide) rfl wF_3_41
theorem s22_61 {l : Launch} {G : KG} : kOpOK l G 22 61 (.inl (g_ild 1 62)) := snd_iload_n dX3_combine_61 rfl
theorem s22_62 {l : Launch} {G : KG} : kOpOK l G 22 62 (.inl (g_dup2 63)) := snd_dup2 dX3_combine_62
theorem s22_63 {l : Launch} {G : KG} : kOpOK l G 22 63 (.inl (g_pald 5 64)) := snd_pald5 dX3_combine_63
theorem s22_64 {l : Launch} {G : KG} : kOpOK l G 22 64 (.inl (g_ald 0 65)) := snd_aload_n dX3_combine_64 rfl
theorem s22_65 {l : Launch} {G : KG} : kOpOK l G 22 65 (.inl (g_gfr 3 0 68)) := snd_gfr (c := 3) (j := 0) (N := 6) dX3_combine_65 rfl hin3 (by decide) rfl (by decide) rfl wF_3_10
theorem s22_68 {l : Launch} {G : KG} : kOpOK l G 22 68 (.inl (g_gfr 1 1 71)) := snd_gfr (c := 1) (j := 1) (N := 14) dX3_combine_68 rfl hin1 (by decide) rfl (by decide) rfl wF_3_49
theorem s22_71 {l : Launch} {G : KG} : kOpOK l G 22 71 (.inl (g_ild 1 72)) := snd_iload_n dX3_combine_71 rfl
theorem s22_72 {l : Launch} {G : KG} : kOpOK l G 22 72 (.inl (g_pald 5 73)) := snd_pald5 dX3_combine_72
theorem s22_73 {l : Launch} {G : KG} : kOpOK l G 22 73 (.inl (g_iop (fun x y => x + y) 74)) := snd_iadd dX3_combine_73
theorem s22_74 {l : Launch} {G : KG} : kOpOK l G 22 74 (.inl (g_past 5 75)) := snd_past5 dX3_combine_74
theorem s22_75 {l : Launch} {G : KG} : kOpOK l G 22 75 (.inl (g_ald 0 76)) := snd_aload_n dX3_combine_75 rfl
theorem s22_76 {l : Launch} {G : KG} : kOpOK l G 22 76 (.inl (g_gfr 3 0 79)) := snd_gfr (c := 3) (j := 0) (N := 6) dX3_combine_76 rfl hin3 (by decide) rfl (by decide) rfl wF_3_10
theorem s22_79 {l : Launch} {G : KG} : kOpOK l G 22 79 (.inl (g_gfr 1 1 82)) := snd_gfr (c := 1) (j := 1) (N := 14) dX3_combine_79 rfl hin1 (by decide) rfl (by decide) rfl wF_3_49
theorem s22_82 {l : Launch} {G : KG} : kOpOK l G 22 82 (.inl (g_ild 1 83)) := snd_iload_n dX3_combine_82 rfl
theorem s22_83 {l : Launch} {G : KG} : kOpOK l G 22 83 (.inl (g_push 0 84)) := snd_iconst dX3_combine_83 rfl
theorem s22_84 {l : Launch} {G : KG} : kOpOK l G 22 84 (.inl (g_past 5 85)) := snd_past5 dX3_combine_84
theorem s22_85 {l : Launch} {G : KG} : kOpOK l G 22 85 (.inl (g_iinc 1 1 88)) := snd_iinc dX3_combine_85 rfl
theorem s22_88 {l : Launch} {G : KG} : kOpOK l G 22 88 (.inl (g_goto 48)) := snd_goto dX3_combine_88 (by decide)
theorem s22_91 {l : Launch} {G : KG} : kOpOK l G 22 91 (.inl (g_ald 0 92)) := snd_aload_n dX3_combine_91 rfl
theorem s22_92 {l : Launch} {G : KG} : kOpOK l G 22 92 (.inl (g_gfr 3 0 95)) := snd_gfr (c := 3) (j := 0) (N := 6) dX3_combine_92 rfl hin3 (by decide) rfl (by decide) rfl wF_3_10
theorem s22_95 {l : Launch} {G : KG} : kOpOK l G 22 95 (.inl (g_gfr 1 0 98)) := snd_gfr (c := 1) (j := 0) (N := 14) dX3_combine_95 rfl hin1 (by decide) rfl (by decide) rfl wF_3_41
theorem s22_98 {l : Launch} {G : KG} : kOpOK l G 22 98 (.inr (.inl (40, 1, 101))) := ⟨snd_callS dX3_combine_98 rfl mok_40 rfl rfl rfl wM_3_52 wS_X3_sumOf wI_3 (by decide) ⟨rfl, rfl⟩, rfl, mok_40, by decide⟩
theorem s22_101 {l : Launch} {G : KG} : kOpOK l G 22 101 (.inr (.inr 1)) := ⟨rfl, Or.inr (Or.inl ⟨rfl, dX3_combine_101, rfl⟩)⟩
theorem s23_0 {l : Launch} {G : KG} : kOpOK l G 23 0 (.inl (g_ild 1 1)) := snd_iload_n dX3_addSieve_0 rfl
theorem s23_1 {l : Launch} {G : KG} : kOpOK l G 23 1 (.inl (g_push 1 2)) := snd_iconst dX3_addSieve_1 rfl
theorem s23_2 {l : Launch} {G : KG} : kOpOK l G 23 2 (.inl (g_push 9 4)) := snd_bipush dX3_addSieve_2 rfl
theorem s23_4 {l : Launch} {G : KG} : kOpOK l G 23 4 (.inr (.inl (37, 3, 7))) := ⟨snd_callS dX3_addSieve_4 rfl mok_37 rfl rfl rfl wM_3_34 wS_X3_isIn wI_3 (by decide) ⟨rfl, rfl⟩, rfl, mok_37, by decide⟩
theorem s23_7 {l : Launch} {G : KG} : kOpOK l G 23 7 (.inl (g_br1 (fun x => decide (¬ x = 0)) 12 10)) := snd_if_ne dX3_addSieve_7 (by decide)
theorem s23_10 {l : Launch} {G : KG} : kOpOK l G 23 10 (.inl (g_push (-1) 11)) := snd_iconst dX3_addSieve_10 rfl
theorem s23_11 {l : Launch} {G : KG} : kOpOK l G 23 11 (.inr (.inr 1)) := ⟨rfl, Or.inr (Or.inl ⟨rfl, dX3_addSieve_11, rfl⟩)⟩
theorem s23_12 {l : Launch} {G : KG} : kOpOK l G 23 12 (.inl (g_ald 0 13)) := snd_aload_n dX3_addSieve_12 rfl
theorem s23_13 {l : Launch} {G : KG} : kOpOK l G 23 13 (.inl (g_gfr 3 0 16)) := snd_gfr (c := 3) (j := 0) (N := 6) dX3_addSieve_13 rfl hin3 (by decide) rfl (by decide) rfl wF_3_10
theorem s23_16 {l : Launch} {G : KG} : kOpOK l G 23 16 (.inl (g_ild 1 17)) := snd_iload_n dX3_addSieve_16 rfl
theorem s23_17 {l : Launch} {G : KG} : kOpOK l G 23 17 (.inr (.inl (4, 2, 20))) := ⟨snd_callV (c := 1) dX3_addSieve_17 rfl mok_4 rfl rfl rfl rfl (by decide) rfl wM_3_79 wN_X1_findSieve wL_X1_findSieve wI_1 (by decide) ⟨rfl, rfl⟩, rfl, mok_4, by decide⟩
theorem s23_20 {l : Launch} {G : KG} : kOpOK l G 23 20 (.inl (g_push (-9) 22)) := snd_bipush dX3_addSieve_20 rfl
theorem s23_22 {l : Launch} {G : KG} : kOpOK l G 23 22 (.inl (g_br2 (fun x y => decide (x = y)) 28 25)) := snd_icmp_eq dX3_addSieve_22 (by decide)
theorem s23_25 {l : Launch} {G : KG} : kOpOK l G 23 25 (.inl (g_push (-2) 27)) := snd_bipush dX3_addSieve_25 rfl
theorem s23_27 {l : Launch} {G : KG} : kOpOK l G 23 27 (.inr (.inr 1)) := ⟨rfl, Or.inr (Or.inl ⟨rfl, dX3_addSieve_27, rfl⟩)⟩
theorem s23_28 {l : Launch} {G : KG} : kOpOK l G 23 28 (.inl (g_ald 0 29)) := snd_aload_n dX3_addSieve_28 rfl
theorem s23_29 {l : Launch} {G : KG} : kOpOK l G 23 29 (.inl (g_gfr 3 0 32)) := snd_gfr (c := 3) (j := 0) (N := 6) dX3_addSieve_29 rfl hin3 (by decide) rfl (by decide) rfl wF_3_10
theorem s23_32 {l : Launch} {G : KG} : kOpOK l G 23 32 (.inl (g_gfi 1 5 35)) := snd_gfi (c := 1) (j := 5) (N := 14) dX3_addSieve_32 rfl hin1 (by decide) rfl (by decide) rfl wF_3_83
theorem s23_35 {l : Launch} {G : KG} : kOpOK l G 23 35 (.inl (g_push 6 37)) := snd_bipush dX3_addSieve_35 rfl
theorem s23_37 {l : Launch} {G : KG} : kOpOK l G 23 37 (.inl (g_br2 (fun x y => decide (x < y)) 43 40)) := snd_icmp_lt dX3_addSieve_37 (by decide)
theorem s23_40 {l : Launch} {G : KG} : kOpOK l G 23 40 (.inl (g_push (-3) 42)) := snd_bipush dX3_addSieve_40 rfl
theorem s23_42 {l : Launch} {G : KG} : kOpOK l G 23 42 (.inr (.inr 1)) := ⟨rfl, Or.inr (Or.inl ⟨rfl, dX3_addSieve_42, rfl⟩)⟩
theorem s23_43 {l : Launch} {G : KG} : kOpOK l G 23 43 (.inl (g_ald 0 44)) := snd_aload_n dX3_addSieve_43 rfl
theorem s23_44 {l : Launch} {G : KG} : kOpOK l G 23 44 (.inr (.inl (36, 1, 47))) := ⟨snd_callV (c := 3) dX3_addSieve_44 rfl mok_36 rfl rfl rfl rfl (by decide) rfl wM_3_38 wN_X3_saveState wL_X3_saveState wI_3 (by decide) ⟨rfl, rfl⟩, rfl, mok_36, by decide⟩
theorem s23_47 {l : Launch} {G : KG} : kOpOK l G 23 47 (.inl (g_ald 0 48)) := snd_aload_n dX3_addSieve_47 rfl
theorem s23_48 {l : Launch} {G : KG} : kOpOK l G 23 48 (.inl (g_gfr 3 0 51)) := snd_gfr (c := 3) (j := 0) (N := 6) dX3_addSieve_48 rfl hin3 (by decide) rfl (by decide) rfl wF_3_10
theorem s23_51 {l : Launch} {G : KG} : kOpOK l G 23 51 (.inr (.inl (7, 1, 54))) := ⟨snd_callV (c := 1) dX3_addSieve_51 rfl mok_7 rfl rfl rfl rfl (by decide) rfl wM_3_86 wN_X1_endAnalysis wL_X1_endAnalysis wI_1 (by decide) ⟨rfl, rfl⟩, rfl, mok_7, by decide⟩
theorem s23_54 {l : Launch} {G : KG} : kOpOK l G 23 54 (.inl (g_ald 0 55)) := snd_aload_n dX3_addSieve_54 rfl
theorem s23_55 {l : Launch} {G : KG} : kOpOK l G 23 55 (.inl (g_gfr 3 0 58)) := snd_gfr (c := 3) (j := 0) (N := 6) dX3_addSieve_55 rfl hin3 (by decide) rfl (by decide) rfl wF_3_10
theorem s23_58 {l : Launch} {G : KG} : kOpOK l G 23 58 (.inl (g_ild 1 59)) := snd_iload_n dX3_addSieve_58 rfl
theorem s23_59 {l : Launch} {G : KG} : kOpOK l G 23 59 (.inr (.inl (5, 2, 62))) := ⟨snd_callV (c := 1) dX3_addSieve_59 rfl mok_5 rfl rfl rfl rfl (by decide) rfl wM_3_89 wN_X1_insertSieve wL_X1_insertSieve wI_1 (by decide) ⟨rfl, rfl⟩, rfl, mok_5, by decide⟩
theorem s23_62 {l : Launch} {G : KG} : kOpOK l G 23 62 (.inr (.inr 1)) := ⟨rfl, Or.inr (Or.inl ⟨rfl, dX3_addSieve_62, rfl⟩)⟩
theorem s24_0 {l : Launch} {G : KG} : kOpOK l G 24 0 (.inl (g_ild 1 1)) := snd_iload_n dX3_removeSieve_0 rfl
theorem s24_1 {l : Launch} {G : KG} : kOpOK l G 24 1 (.inl (g_push 1 2)) := snd_iconst dX3_removeSieve_1 rfl
theorem s24_2 {l : Launch} {G : KG} : kOpOK l G 24 2 (.inl (g_push 9 4)) := snd_bipush dX3_removeSieve_2 rfl
theorem s24_4 {l : Launch} {G : KG} : kOpOK l G 24 4 (.inr (.inl (37, 3, 7))) := ⟨snd_callS dX3_removeSieve_4 rfl mok_37 rfl rfl rfl wM_3_34 wS_X3_isIn wI_3 (by decide) ⟨rfl, rfl⟩, rfl, mok_37, by decide⟩
theorem s24_7 {l : Launch} {G : KG} : kOpOK l G 24 7 (.inl (g_br1 (fun x => decide (¬ x = 0)) 12 10)) := snd_if_ne dX3_removeSieve_7 (by decide)
theorem s24_10 {l : Launch} {G : KG} : kOpOK l G 24 10 (.inl (g_push (-1) 11)) := snd_iconst dX3_removeSieve_10 rfl
theorem s24_11 {l : Launch} {G : KG} : kOpOK l G 24 11 (.inr (.inr 1)) := ⟨rfl, Or.inr (Or.inl ⟨rfl, dX3_removeSieve_11, rfl⟩)⟩
theorem s24_12 {l : Launch} {G : KG} : kOpOK l G 24 12 (.inl (g_ald 0 13)) := snd_aload_n dX3_removeSieve_12 rfl
theorem s24_13 {l : Launch} {G : KG} : kOpOK l G 24 13 (.inl (g_gfr 3 0 16)) := snd_gfr (c := 3) (j := 0) (N := 6) dX3_removeSieve_13 rfl hin3 (by decide) rfl (by decide) rfl wF_3_10
theorem s24_16 {l : Launch} {G : KG} : kOpOK l G 24 16 (.inl (g_ild 1 17)) := snd_iload_n dX3_removeSieve_16 rfl
theorem s24_17 {l : Launch} {G : KG} : kOpOK l G 24 17 (.inr (.inl (4, 2, 20))) := ⟨snd_callV (c := 1) dX3_removeSieve_17 rfl mok_4 rfl rfl rfl rfl (by decide) rfl wM_3_79 wN_X1_findSieve wL_X1_findSieve wI_1 (by decide) ⟨rfl, rfl⟩, rfl, mok_4, by decide⟩
theorem s24_20 {l : Launch} {G : KG} : kOpOK l G 24 20 (.inl (g_ist 2 21)) := snd_istore_n dX3_removeSieve_20 rfl
theorem s24_21 {l : Launch} {G : KG} : kOpOK l G 24 21 (.inl (g_ild 2 22)) := snd_iload_n dX3_removeSieve_21 rfl
theorem s24_22 {l : Launch} {G : KG} : kOpOK l G 24 22 (.inl (g_push (-9) 24)) := snd_bipush dX3_removeSieve_22 rfl
theorem s24_24 {l : Launch} {G : KG} : kOpOK l G 24 24 (.inl (g_br2 (fun x y => decide (¬ x = y)) 30 27)) := snd_icmp_ne dX3_removeSieve_24 (by decide)
theorem s24_27 {l : Launch} {G : KG} : kOpOK l G 24 27 (.inl (g_push (-2) 29)) := snd_bipush dX3_removeSieve_27 rfl
theorem s24_29 {l : Launch} {G : KG} : kOpOK l G 24 29 (.inr (.inr 1)) := ⟨rfl, Or.inr (Or.inl ⟨rfl, dX3_removeSieve_29, rfl⟩)⟩
theorem s24_30 {l : Launch} {G : KG} : kOpOK l G 24 30 (.inl (g_ald 0 31)) := snd_aload_n dX3_removeSieve_30 rfl
theorem s24_31 {l : Launch} {G : KG} : kOpOK l G 24 31 (.inr (.inl (36, 1, 34))) := ⟨snd_callV (c := 3) dX3_removeSieve_31 rfl mok_36 rfl rfl rfl rfl (by decide) rfl wM_3_38 wN_X3_saveState wL_X3_saveState wI_3 (by decide) ⟨rfl, rfl⟩, rfl, mok_36, by decide⟩
theorem s24_34 {l : Launch} {G : KG} : kOpOK l G 24 34 (.inl (g_ald 0 35)) := snd_aload_n dX3_removeSieve_34 rfl
theorem s24_35 {l : Launch} {G : KG} : kOpOK l G 24 35 (.inl (g_gfr 3 0 38)) := snd_gfr (c := 3) (j := 0) (N := 6) dX3_removeSieve_35 rfl hin3 (by decide) rfl (by decide) rfl wF_3_10
theorem s24_38 {l : Launch} {G : KG} : kOpOK l G 24 38 (.inr (.inl (7, 1, 41))) := ⟨snd_callV (c := 1) dX3_removeSieve_38 rfl mok_7 rfl rfl rfl rfl (by decide) rfl wM_3_86 wN_X1_endAnalysis wL_X1_endAnalysis wI_1 (by decide) ⟨rfl, rfl⟩, rfl, mok_7, by decide⟩
theorem s24_41 {l : Launch} {G : KG} : kOpOK l G 24 41 (.inl (g_ald 0 42)) := snd_aload_n dX3_removeSieve_41 rfl
theorem s24_42 {l : Launch} {G : KG} : kOpOK l G 24 42 (.inl (g_gfr 3 0 45)) := snd_gfr (c := 3) (j := 0) (N := 6) dX3_removeSieve_42 rfl hin3 (by decide) rfl (by decide) rfl wF_3_10
theorem s24_45 {l : Launch} {G : KG} : kOpOK l G 24 45 (.inl (g_ild 2 46)) := snd_iload_n dX3_removeSieve_45 rfl
theorem s24_46 {l : Launch} {G : KG} : kOpOK l G 24 46 (.inr (.inl (6, 2, 49))) := ⟨snd_callV (c := 1) dX3_removeSieve_46 rfl mok_6 rfl rfl rfl rfl (by decide) rfl wM_3_92 wN_X1_takeSieve wL_X1_takeSieve wI_1 (by decide) ⟨rfl, rfl⟩, rfl, mok_6, by decide⟩
theorem s24_49 {l : Launch} {G : KG} : kOpOK l G 24 49 (.inl (g_ald 0 50)) := snd_aload_n dX3_removeSieve_49 rfl
theorem s24_50 {l : Launch} {G : KG} : kOpOK l G 24 50 (.inl (g_gfr 3 0 53)) := snd_gfr (c := 3) (j := 0) (N := 6) dX3_removeSieve_50 rfl hin3 (by decide) rfl (by decide) rfl wF_3_10
theorem s24_53 {l : Launch} {G : KG} : kOpOK l G 24 53 (.inl (g_gfi 1 5 56)) := snd_gfi (c := 1) (j := 5) (N := 14) dX3_removeSieve_53 rfl hin1 (by decide) rfl (by decide) rfl wF_3_83
theorem s24_56 {l : Launch} {G : KG} : kOpOK l G 24 56 (.inr (.inr 1)) := ⟨rfl, Or.inr (Or.inl ⟨rfl, dX3_removeSieve_56, rfl⟩)⟩
theorem s25_0 {l : Launch} {G : KG} : kOpOK l G 25 0 (.inl (g_ild 1 1)) := snd_iload_n dX3_setRules_0 rfl
theorem s25_1 {l : Launch} {G : KG} : kOpOK l G 25 1 (.inl (g_push 1 2)) := snd_iconst dX3_setRules_1 rfl
theorem s25_2 {l : Launch} {G : KG} : kOpOK l G 25 2 (.inl (g_push 9999 5)) := snd_sipush dX3_setRules_2 rfl
theorem s25_5 {l : Launch} {G : KG} : kOpOK l G 25 5 (.inr (.inl (37, 3, 8))) := ⟨snd_callS dX3_setRules_5 rfl mok_37 rfl rfl rfl wM_3_34 wS_X3_isIn wI_3 (by decide) ⟨rfl, rfl⟩, rfl, mok_37, by decide⟩
theorem s25_8 {l : Launch} {G : KG} : kOpOK l G 25 8 (.inl (g_br1 (fun x => decide (x = 0)) 43 11)) := snd_if_eq dX3_setRules_8 (by decide)
theorem s25_11 {l : Launch} {G : KG} : kOpOK l G 25 11 (.inl (g_ild 2 12)) := snd_iload_n dX3_setRules_11 rfl
theorem s25_12 {l : Launch} {G : KG} : kOpOK l G 25 12 (.inl (g_push 0 13)) := snd_iconst dX3_setRules_12 rfl
theorem s25_13 {l : Launch} {G : KG} : kOpOK l G 25 13 (.inl (g_push 200 16)) := snd_sipush dX3_setRules_13 rfl
theorem s25_16 {l : Launch} {G : KG} : kOpOK l G 25 16 (.inr (.inl (37, 3, 19))) := ⟨snd_callS dX3_setRules_16 rfl mok_37 rfl rfl rfl wM_3_34 wS_X3_isIn wI_3 (by decide) ⟨rfl, rfl⟩, rfl, mok_37, by decide⟩
theorem s25_19 {l : Launch} {G : KG} : kOpOK l G 25 19 (.inl (g_br1 (fun x => decide (x = 0)) 43 22)) := snd_if_eq dX3_setRules_19 (by decide)
theorem s25_22 {l : Launch} {G : KG} : kOpOK l G 25 22 (.inl (g_ild 3 23)) := snd_iload_n dX3_setRules_22 rfl
theorem s25_23 {l : Launch} {G : KG} : kOpOK l G 25 23 (.inl (g_push 0 24)) := snd_iconst dX3_setRules_23 rfl
theorem s25_24 {l : Launch} {G : KG} : kOpOK l G 25 24 (.inl (g_push 100 26)) := snd_bipush dX3_setRules_24 rfl
theorem s25_26 {l : Launch} {G : KG} : kOpOK l G 25 26 (.inr (.inl (37, 3, 29))) := ⟨snd_callS dX3_setRules_26 rfl mok_37 rfl rfl rfl wM_3_34 wS_X3_isIn wI_3 (by decide) ⟨rfl, rfl⟩, rfl, mok_37, by decide⟩
theorem s25_29 {l : Launch} {G : KG} : kOpOK l G 25 29 (.inl (g_br1 (fun x => decide (x = 0)) 43 32)) := snd_if_eq dX3_setRules_29 (by decide)
theorem s25_32 {l : Launch} {G : KG} : kOpOK l G 25 32 (.inl (g_ild 4 34)) := snd_iload dX3_setRules_32
theorem s25_34 {l : Launch} {G : KG} : kOpOK l G 25 34 (.inl (g_push 0 35)) := snd_iconst dX3_setRules_34 rfl
theorem s25_35 {l : Launch} {G : KG} : kOpOK l G 25 35 (.inl (g_push 100 37)) := snd_bipush dX3_setRules_35 rfl
theorem s25_37 {l : Launch} {G : KG} : kOpOK l G 25 37 (.inr (.inl (37, 3, 40))) := ⟨snd_callS dX3_setRules_37 rfl mok_37 rfl rfl rfl wM_3_34 wS_X3_isIn wI_3 (by decide) ⟨rfl, rfl⟩, rfl, mok_37, by decide⟩
theorem s25_40 {l : Launch} {G : KG} : kOpOK l G 25 40 (.inl (g_br1 (fun x => decide (¬ x = 0)) 45 43)) := snd_if_ne dX3_setRules_40 (by decide)
theorem s25_43 {l : Launch} {G : KG} : kOpOK l G 25 43 (.inl (g_push (-1) 44)) := snd_iconst dX3_setRules_43 rfl
theorem s25_44 {l : Launch} {G : KG} : kOpOK l G 25 44 (.inr (.inr 1)) := ⟨rfl, Or.inr (Or.inl ⟨rfl, dX3_setRules_44, rfl⟩)⟩
theorem s25_45 {l : Launch} {G : KG} : kOpOK l G 25 45 (.inl (g_ald 0 46)) := snd_aload_n dX3_setRules_45 rfl
theorem s25_46 {l : Launch} {G : KG} : kOpOK l G 25 46 (.inr (.inl (36, 1, 49))) := ⟨snd_callV (c := 3) dX3_setRules_46 rfl mok_36 rfl rfl rfl rfl (by decide) rfl wM_3_38 wN_X3_saveState wL_X3_saveState wI_3 (by decide) ⟨rfl, rfl⟩, rfl, mok_36, by decide⟩
theorem s25_49 {l : Launch} {G : KG} : kOpOK l G 25 49 (.inl (g_ald 0 50)) := snd_aload_n dX3_setRules_49 rfl
theorem s25_50 {l : Launch} {G : KG} : kOpOK l G 25 50 (.inl (g_gfr 3 0 53)) := snd_gfr (c := 3) (j := 0) (N := 6) dX3_setRules_50 rfl hin3 (by decide) rfl (by decide) rfl wF_3_10
theorem s25_53 {l : Launch} {G : KG} : kOpOK l G 25 53 (.inl (g_gfi 1 6 56)) := snd_gfi (c := 1) (j := 6) (N := 14) dX3_setRules_53 rfl hin1 (by decide) rfl (by decide) rfl wF_3_96
theorem s25_56 {l : Launch} {G : KG} : kOpOK l G 25 56 (.inl (g_ild 1 57)) := snd_iload_n dX3_setRules_56 rfl
theorem s25_57 {l : Launch} {G : KG} : kOpOK l G 25 57 (.inl (g_br2 (fun x y => decide (¬ x = y)) 98 60)) := snd_icmp_ne dX3_setRules_57 (by decide)
theorem s25_60 {l : Launch} {G : KG} : kOpOK l G 25 60 (.inl (g_ald 0 61)) := snd_aload_n dX3_setRules_60 rfl
theorem s25_61 {l : Launch} {G : KG} : kOpOK l G 25 61 (.inl (g_gfr 3 0 64)) := snd_gfr (c := 3) (j := 0) (N := 6) dX3_setRules_61 rfl hin3 (by decide) rfl (by decide) rfl wF_3_10
theorem s25_64 {l : Launch} {G : KG} : kOpOK l G 25 64 (.inl (g_gfi 1 7 67)) := snd_gfi (c := 1) (j := 7) (N := 14) dX3_setRules_64 rfl hin1 (by decide) rfl (by decide) rfl wF_3_99
theorem s25_67 {l : Launch} {G : KG} : kOpOK l G 25 67 (.inl (g_ild 2 68)) := snd_iload_n dX3_setRules_67 rfl
theorem s25_68 {l : Launch} {G : KG} : kOpOK l G 25 68 (.inl (g_br2 (fun x y => decide (¬ x = y)) 98 71)) := snd_icmp_ne dX3_setRules_68 (by decide)
theorem s25_71 {l : Launch} {G : KG} : kOpOK l G 25 71 (.inl (g_ald 0 72)) := snd_aload_n dX3_setRules_71 rfl
theorem s25_72 {l : Launch} {G : KG} : kOpOK l G 25 72 (.inl (g_gfr 3 0 75)) := snd_gfr (c := 3) (j := 0) (N := 6) dX3_setRules_72 rfl hin3 (by decide) rfl (by decide) rfl wF_3_10
theorem s25_75 {l : Launch} {G : KG} : kOpOK l G 25 75 (.inl (g_gfi 1 8 78)) := snd_gfi (c := 1) (j := 8) (N := 14) dX3_setRules_75 rfl hin1 (by decide) rfl (by decide) rfl wF_3_102
theorem s25_78 {l : Launch} {G : KG} : kOpOK l G 25 78 (.inl (g_ild 3 79)) := snd_iload_n dX3_setRules_78 rfl
theorem s25_79 {l : Launch} {G : KG} : kOpOK l G 25 79 (.inl (g_br2 (fun x y => decide (¬ x = y)) 98 82)) := snd_icmp_ne dX3_setRules_79 (by decide)
theorem s25_82 {l : Launch} {G : KG} : kOpOK l G 25 82 (.inl (g_ald 0 83)) := snd_aload_n dX3_setRules_82 rfl
theorem s25_83 {l : Launch} {G : KG} : kOpOK l G 25 83 (.inl (g_gfr 3 0 86)) := snd_gfr (c := 3) (j := 0) (N := 6) dX3_setRules_83 rfl hin3 (by decide) rfl (by decide) rfl wF_3_10
theorem s25_86 {l : Launch} {G : KG} : kOpOK l G 25 86 (.inl (g_gfi 1 9 89)) := snd_gfi (c := 1) (j := 9) (N := 14) dX3_setRules_86 rfl hin1 (by decide) rfl (by decide) rfl wF_3_105
theorem s25_89 {l : Launch} {G : KG} : kOpOK l G 25 89 (.inl (g_ild 4 91)) := snd_iload dX3_setRules_89
theorem s25_91 {l : Launch} {G : KG} : kOpOK l G 25 91 (.inl (g_br2 (fun x y => decide (¬ x = y)) 98 94)) := snd_icmp_ne dX3_setRules_91 (by decide)
theorem s25_94 {l : Launch} {G : KG} : kOpOK l G 25 94 (.inl (g_push 1 95)) := snd_iconst dX3_setRules_94 rfl
theorem s25_95 {l : Launch} {G : KG} : kOpOK l G 25 95 (.inl (g_goto 99)) := snd_goto dX3_setRules_95 (by decide)
theorem s25_98 {l : Launch} {G : KG} : kOpOK l G 25 98 (.inl (g_push 0 99)) := snd_iconst dX3_setRules_98 rfl
theorem s25_99 {l : Launch} {G : KG} : kOpOK l G 25 99 (.inl (g_ist 5 101)) := snd_istore dX3_setRules_99
theorem s25_101 {l : Launch} {G : KG} : kOpOK l G 25 101 (.inl (g_ald 0 102)) := snd_aload_n dX3_setRules_101 rfl
theorem s25_102 {l : Launch} {G : KG} : kOpOK l G 25 102 (.inl (g_gfr 3 0 105)) := snd_gfr (c := 3) (j := 0) (N := 6) dX3_setRules_102 rfl hin3 (by decide) rfl (by decide) rfl wF_3_10
theorem s25_105 {l : Launch} {G : KG} : kOpOK l G 25 105 (.inl (g_ild 1 106)) := snd_iload_n dX3_setRules_105 rfl
theorem s25_106 {l : Launch} {G : KG} : kOpOK l G 25 106 (.inl (g_pfi 1 6 109)) := snd_pfi (c := 1) (j := 6) (N := 14) dX3_setRules_106 rfl hin1 (by decide) rfl (by decide) rfl wF_3_96 tyX1 tyX1_ok nmX1 rfl (by decide +kernel)
theorem s25_109 {l : Launch} {G : KG} : kOpOK l G 25 109 (.inl (g_ald 0 110)) := snd_aload_n dX3_setRules_109 rfl
theorem s25_110 {l : Launch} {G : KG} : kOpOK l G 25 110 (.inl (g_gfr 3 0 113)) := snd_gfr (c := 3) (j := 0) (N := 6) dX3_setRules_110 rfl hin3 (by decide) rfl (by decide) rfl wF_3_10
theorem s25_113 {l : Launch} {G : KG} : kOpOK l G 25 113 (.inl (g_ild 2 114)) := snd_iload_n dX3_setRules_113 rfl
theorem s25_114 {l : Launch} {G : KG} : kOpOK l G 25 114 (.inl (g_pfi 1 7 117)) := snd_pfi (c := 1) (j := 7) (N := 14) dX3_setRules_114 rfl hin1 (by decide) rfl (by decide) rfl wF_3_99 tyX1 tyX1_ok nmX1 rfl (by decide +kernel)
theorem s25_117 {l : Launch} {G : KG} : kOpOK l G 25 117 (.inl (g_ald 0 118)) := snd_aload_n dX3_setRules_117 rfl
theorem s25_118 {l : Launch} {G : KG} : kOpOK l G 25 118 (.inl (g_gfr 3 0 121)) := snd_gfr (c := 3) (j := 0) (N := 6) dX3_setRules_118 rfl hin3 (by decide) rfl (by decide) rfl wF_3_10
theorem s25_121 {l : Launch} {G : KG} : kOpOK l G 25 121 (.inl (g_ild 3 122)) := snd_iload_n dX3_setRules_121 rfl
theorem s25_122 {l : Launch} {G : KG} : kOpOK l G 25 122 (.inl (g_pfi 1 8 125)) := snd_pfi (c := 1) (j := 8) (N := 14) dX3_setRules_122 rfl hin1 (by decide) rfl (by decide) rfl wF_3_102 tyX1 tyX1_ok nmX1 rfl (by decide +kernel)
theorem s25_125 {l : Launch} {G : KG} : kOpOK l G 25 125 (.inl (g_ald 0 126)) := snd_aload_n dX3_setRules_125 rfl
theorem s25_126 {l : Launch} {G : KG} : kOpOK l G 25 126 (.inl (g_gfr 3 0 129)) := snd_gfr (c := 3) (j := 0) (N := 6) dX3_setRules_126 rfl hin3 (by decide) rfl (by decide) rfl wF_3_10
theorem s25_129 {l : Launch} {G : KG} : kOpOK l G 25 129 (.inl (g_ild 4 131)) := snd_iload dX3_setRules_129
theorem s25_131 {l : Launch} {G : KG} : kOpOK l G 25 131 (.inl (g_pfi 1 9 134)) := snd_pfi (c := 1) (j := 9) (N := 14) dX3_setRules_131 rfl hin1 (by decide) rfl (by decide) rfl wF_3_105 tyX1 tyX1_ok nmX1 rfl (by decide +kernel)
theorem s25_134 {l : Launch} {G : KG} : kOpOK l G 25 134 (.inl (g_ild 5 136)) := snd_iload dX3_setRules_134
theorem s25_136 {l : Launch} {G : KG} : kOpOK l G 25 136 (.inl (g_br1 (fun x => decide (x = 0)) 143 139)) := snd_if_eq dX3_setRules_136 (by decide)
theorem s25_139 {l : Launch} {G : KG} : kOpOK l G 25 139 (.inl (g_push 0 140)) := snd_iconst dX3_setRules_139 rfl
theorem s25_140 {l : Launch} {G : KG} : kOpOK l G 25 140 (.inl (g_goto 144)) := snd_goto dX3_setRules_140 (by decide)
theorem s25_143 {l : Launch} {G : KG} : kOpOK l G 25 143 (.inl (g_push 1 144)) := snd_iconst dX3_setRules_143 rfl
theorem s25_144 {l : Launch} {G : KG} : kOpOK l G 25 144 (.inr (.inr 1)) := ⟨rfl, Or.inr (Or.inl ⟨rfl, dX3_setRules_144, rfl⟩)⟩
theorem s26_0 {l : Launch} {G : KG} : kOpOK l G 26 0 (.inl (g_ild 1 1)) := snd_iload_n dX3_count_0 rfl
theorem s26_1 {l : Launch} {G : KG} : kOpOK l G 26 1 (.inl (g_tsw 9 [56, 64, 72, 80, 88, 96, 112, 120, 128, 136] 141)) := snd_tsw dX3_count_1 (by decide) (by decide) (by decide)
theorem s26_56 {l : Launch} {G : KG} : kOpOK l G 26 56 (.inl (g_ald 0 57)) := snd_aload_n dX3_count_56 rfl
theorem s26_57 {l : Launch} {G : KG} : kOpOK l G 26 57 (.inl (g_gfr 3 0 60)) := snd_gfr (c := 3) (j := 0) (N := 6) dX3_count_57 rfl hin3 (by decide) rfl (by decide) rfl wF_3_10
theorem s26_60 {l : Launch} {G : KG} : kOpOK l G 26 60 (.inl (g_gfi 1 5 63)) := snd_gfi (c := 1) (j := 5) (N := 14) dX3_count_60 rfl hin1 (by decide) rfl (by decide) rfl wF_3_83
theorem s26_63 {l : Launch} {G : KG} : kOpOK l G 26 63 (.inr (.inr 1)) := ⟨rfl, Or.inr (Or.inl ⟨rfl, dX3_count_63, rfl⟩)⟩
theorem s26_64 {l : Launch} {G : KG} : kOpOK l G 26 64 (.inl (g_ald 0 65)) := snd_aload_n dX3_count_64 rfl
theorem s26_65 {l : Launch} {G : KG} : kOpOK l G 26 65 (.inl (g_gfr 3 0 68)) := snd_gfr (c := 3) (j := 0) (N := 6) dX3_count_65 rfl hin3 (by decide) rfl (by decide) rfl wF_3_10
theorem s26_68 {l : Launch} {G : KG} : kOpOK l G 26 68 (.inl (g_gfi 1 6 71)) := snd_gfi (c := 1) (j := 6) (N := 14) dX3_count_68 rfl hin1 (by decide) rfl (by decide) rfl wF_3_96
theorem s26_71 {l : Launch} {G : KG} : kOpOK l G 26 71 (.inr (.inr 1)) := ⟨rfl, Or.inr (Or.inl ⟨rfl, dX3_count_71, rfl⟩)⟩
theorem s26_72 {l : Launch} {G : KG} : kOpOK l G 26 72 (.inl (g_ald 0 73)) := snd_aload_n dX3_count_72 rfl
theorem s26_73 {l : Launch} {G : KG} : kOpOK l G 26 73 (.inl (g_gfr 3 0 76)) := snd_gfr (c := 3) (j := 0) (N := 6) dX3_count_73 rfl hin3 (by decide) rfl (by decide) rfl wF_3_10
theorem s26_76 {l : Launch} {G : KG} : kOpOK l G 26 76 (.inl (g_gfi 1 7 79)) := snd_gfi (c := 1) (j := 7) (N := 14) dX3_count_76 rfl hin1 (by decide) rfl (by decide) rfl wF_3_99
theorem s26_79 {l : Launch} {G : KG} : kOpOK l G 26 79 (.inr (.inr 1)) := ⟨rfl, Or.inr (Or.inl ⟨rfl, dX3_count_79, rfl⟩)⟩
theorem s26_80 {l : Launch} {G : KG} : kOpOK l G 26 80 (.inl (g_ald 0 81)) := snd_aload_n dX3_count_80 rfl
theorem s26_81 {l : Launch} {G : KG} : kOpOK l G 26 81 (.inl (g_gfr 3 0 84)) := snd_gfr (c := 3) (j := 0) (N := 6) dX3_count_81 rfl hin3 (by decide) rfl (by decide) rfl wF_3_10
theorem s26_84 {l : Launch} {G : KG} : kOpOK l G 26 84 (.inl (g_gfi 1 8 87)) := snd_gfi (c := 1) (j := 8) (N := 14) dX3_count_84 rfl hin1 (by decide) rfl (by decide) rfl wF_3_102
theorem s26_87 {l : Launch} {G : KG} : kOpOK l G 26 87 (.inr (.inr 1)) := ⟨rfl, Or.inr (Or.inl ⟨rfl, dX3_count_87, rfl⟩)⟩
theorem s26_88 {l : Launch} {G : KG} : kOpOK l G 26 88 (.inl (g_ald 0 89)) := snd_aload_n dX3_count_88 rfl
theorem s26_89 {l : Launch} {G : KG} : kOpOK l G 26 89 (.inl (g_gfr 3 0 92)) := snd_gfr (c := 3) (j := 0) (N := 6) dX3_count_89 rfl hin3 (by decide) rfl (by decide) rfl wF_3_10
theorem s26_92 {l : Launch} {G : KG} : kOpOK l G 26 92 (.inl (g_gfi 1 9 95)) := snd_gfi (c := 1) (j := 9) (N := 14) dX3_count_92 rfl hin1 (by decide) rfl (by decide) rfl wF_3_105
theorem s26_95 {l : Launch} {G : KG} : kOpOK l G 26 95 (.inr (.inr 1)) := ⟨rfl, Or.inr (Or.inl ⟨rfl, dX3_count_95, rfl⟩)⟩
theorem s26_96 {l : Launch} {G : KG} : kOpOK l G 26 96 (.inl (g_ald 0 97)) := snd_aload_n dX3_count_96 rfl
theorem s26_97 {l : Launch} {G : KG} : kOpOK l G 26 97 (.inl (g_gfr 3 0 100)) := snd_gfr (c := 3) (j := 0) (N := 6) dX3_count_97 rfl hin3 (by decide) rfl (by decide) rfl wF_3_10
theorem s26_100 {l : Launch} {G : KG} : kOpOK l G 26 100 (.inl (g_gfi 1 10 103)) := snd_gfi (c := 1) (j := 10) (N := 14) dX3_count_100 rfl hin1 (by decide) rfl (by decide) rfl wF_3_114
theorem s26_103 {l : Launch} {G : KG} : kOpOK l G 26 103 (.inl (g_br1 (fun x => decide (x = 0)) 110 106)) := snd_if_eq dX3_count_103 (by decide)
theorem s26_106 {l : Launch} {G : KG} : kOpOK l G 26 106 (.inl (g_push 1 107)) := snd_iconst dX3_count_106 rfl
theorem s26_107 {l : Launch} {G : KG} : kOpOK l G 26 107 (.inl (g_goto 111)) := snd_goto dX3_count_107 (by decide)
theorem s26_110 {l : Launch} {G : KG} : kOpOK l G 26 110 (.inl (g_push 0 111)) := snd_iconst dX3_count_110 rfl
theorem s26_111 {l : Launch} {G : KG} : kOpOK l G 26 111 (.inr (.inr 1)) := ⟨rfl, Or.inr (Or.inl ⟨rfl, dX3_count_111, rfl⟩)⟩
theorem s26_112 {l : Launch} {G : KG} : kOpOK l G 26 112 (.inl (g_ald 0 113)) := snd_aload_n dX3_count_112 rfl
theorem s26_113 {l : Launch} {G : KG} : kOpOK l G 26 113 (.inl (g_gfr 3 0 116)) := snd_gfr (c := 3) (j := 0) (N := 6) dX3_count_113 rfl hin3 (by decide) rfl (by decide) rfl wF_3_10
theorem s26_116 {l : Launch} {G : KG} : kOpOK l G 26 116 (.inl (g_gfi 1 12 119)) := snd_gfi (c := 1) (j := 12) (N := 14) dX3_count_116 rfl hin1 (by decide) rfl (by decide) rfl wF_3_118
theorem s26_119 {l : Launch} {G : KG} : kOpOK l G 26 119 (.inr (.inr 1)) := ⟨rfl, Or.inr (Or.inl ⟨rfl, dX3_count_119, rfl⟩)⟩
theorem s26_120 {l : Launch} {G : KG} : kOpOK l G 26 120 (.inl (g_ald 0 121)) := snd_aload_n dX3_count_120 rfl
theorem s26_121 {l : Launch} {G : KG} : kOpOK l G 26 121 (.inl (g_gfr 3 0 124)) := snd_gfr (c := 3) (j := 0) (N := 6) dX3_count_121 rfl hin3 (by decide) rfl (by decide) rfl wF_3_10
theorem s26_124 {l : Launch} {G : KG} : kOpOK l G 26 124 (.inl (g_gfi 1 13 127)) := snd_gfi (c := 1) (j := 13) (N := 14) dX3_count_124 rfl hin1 (by decide) rfl (by decide) rfl wF_3_121
theorem s26_127 {l : Launch} {G : KG} : kOpOK l G 26 127 (.inr (.inr 1)) := ⟨rfl, Or.inr (Or.inl ⟨rfl, dX3_count_127, rfl⟩)⟩
theorem s26_128 {l : Launch} {G : KG} : kOpOK l G 26 128 (.inl (g_ald 0 129)) := snd_aload_n dX3_count_128 rfl
theorem s26_129 {l : Launch} {G : KG} : kOpOK l G 26 129 (.inl (g_gfr 3 3 132)) := snd_gfr (c := 3) (j := 3) (N := 6) dX3_count_129 rfl hin3 (by decide) rfl (by decide) rfl wF_3_26
theorem s26_132 {l : Launch} {G : KG} : kOpOK l G 26 132 (.inl (g_gfi 0 3 135)) := snd_gfi (c := 0) (j := 3) (N := 5) dX3_count_132 rfl hin0 (by decide) rfl (by decide) rfl wF_3_60
theorem s26_135 {l : Launch} {G : KG} : kOpOK l G 26 135 (.inr (.inr 1)) := ⟨rfl, Or.inr (Or.inl ⟨rfl, dX3_count_135, rfl⟩)⟩
theorem s26_136 {l : Launch} {G : KG} : kOpOK l G 26 136 (.inl (g_ald 0 137)) := snd_aload_n dX3_count_136 rfl
theorem s26_137 {l : Launch} {G : KG} : kOpOK l G 26 137 (.inl (g_gfi 3 5 140)) := snd_gfi (c := 3) (j := 5) (N := 6) dX3_count_137 rfl hin3 (by decide) rfl (by decide) rfl wF_3_124
theorem s26_140 {l : Launch} {G : KG} : kOpOK l G 26 140 (.inr (.inr 1)) := ⟨rfl, Or.inr (Or.inl ⟨rfl, dX3_count_140, rfl⟩)⟩
theorem s26_141 {l : Launch} {G : KG} : kOpOK l G 26 141 (.inl (g_push (-1) 142)) := snd_iconst dX3_count_141 rfl
theorem s26_142 {l : Launch} {G : KG} : kOpOK l G 26 142 (.inr (.inr 1)) := ⟨rfl, Or.inr (Or.inl ⟨rfl, dX3_count_142, rfl⟩)⟩
theorem s27_0 {l : Launch} {G : KG} : kOpOK l G 27 0 (.inl (g_ald 0 1)) := snd_aload_n dX3_tray_0 rfl
theorem s27_1 {l : Launch} {G : KG} : kOpOK l G 27 1 (.inl (g_gfr 3 0 4)) := snd_gfr (c := 3) (j := 0) (N := 6) dX3_tray_1 rfl hin3 (by decide) rfl (by decide) rfl wF_3_10
theorem s27_4 {l : Launch} {G : KG} : kOpOK l G 27 4 (.inl (g_ild 1 5)) := snd_iload_n dX3_tray_4 rfl
theorem s27_5 {l : Launch} {G : KG} : kOpOK l G 27 5 (.inr (.inl (1, 2, 8))) := ⟨snd_callV (c := 1) dX3_tray_5 rfl mok_1 rfl rfl rfl rfl (by decide) rfl wM_3_127 wN_X1_isTray wL_X1_isTray wI_1 (by decide) ⟨rfl, rfl⟩, rfl, mok_1, by decide⟩
theorem s27_8 {l : Launch} {G : KG} : kOpOK l G 27 8 (.inl (g_br1 (fun x => decide (¬ x = 0)) 13 11)) := snd_if_ne dX3_tray_8 (by decide)
theorem s27_11 {l : Launch} {G : KG} : kOpOK l G 27 11 (.inl (g_push (-1) 12)) := snd_iconst dX3_tray_11 rfl
theorem s27_12 {l : Launch} {G : KG} : kOpOK l G 27 12 (.inr (.inr 1)) := ⟨rfl, Or.inr (Or.inl ⟨rfl, dX3_tray_12, rfl⟩)⟩
theorem s27_13 {l : Launch} {G : KG} : kOpOK l G 27 13 (.inl (g_ald 0 14)) := snd_aload_n dX3_tray_13 rfl
theorem s27_14 {l : Launch} {G : KG} : kOpOK l G 27 14 (.inl (g_gfr 3 0 17)) := snd_gfr (c := 3) (j := 0) (N := 6) dX3_tray_14 rfl hin3 (by decide) rfl (by decide) rfl wF_3_10
theorem s27_17 {l : Launch} {G : KG} : kOpOK l G 27 17 (.inl (g_gfr 1 2 20)) := snd_gfr (c := 1) (j := 2) (N := 14) dX3_tray_17 rfl hin1 (by decide) rfl (by decide) rfl wF_3_130
theorem s27_20 {l : Launch} {G : KG} : kOpOK l G 27 20 (.inl (g_ild 1 21)) := snd_iload_n dX3_tray_20 rfl
theorem s27_21 {l : Launch} {G : KG} : kOpOK l G 27 21 (.inl (g_aald 9 22)) := snd_aald9 dX3_tray_21
theorem s27_22 {l : Launch} {G : KG} : kOpOK l G 27 22 (.inl (g_ast 3 23)) := snd_astore_n dX3_tray_22 rfl
theorem s27_23 {l : Launch} {G : KG} : kOpOK l G 27 23 (.inl (g_ild 2 24)) := snd_iload_n dX3_tray_23 rfl
theorem s27_24 {l : Launch} {G : KG} : kOpOK l G 27 24 (.inl (g_tsw 4 [60, 65, 73, 78, 83] 95)) := snd_tsw dX3_tray_24 (by decide) (by decide) (by decide)
theorem s27_60 {l : Launch} {G : KG} : kOpOK l G 27 60 (.inl (g_ald 3 61)) := snd_aload_n dX3_tray_60 rfl
theorem s27_61 {l : Launch} {G : KG} : kOpOK l G 27 61 (.inl (g_gfi 2 1 64)) := snd_gfi (c := 2) (j := 1) (N := 4) dX3_tray_61 rfl hin2 (by decide) rfl (by decide) rfl wF_3_134
theorem s27_64 {l : Launch} {G : KG} : kOpOK l G 27 64 (.inr (.inr 1)) := ⟨rfl, Or.inr (Or.inl ⟨rfl, dX3_tray_64, rfl⟩)⟩
theorem s27_65 {l : Launch} {G : KG} : kOpOK l G 27 65 (.inl (g_ald 3 66)) := snd_aload_n dX3_tray_65 rfl
theorem s27_66 {l : Launch} {G : KG} : kOpOK l G 27 66 (.inl (g_gfr 2 0 69)) := snd_gfr (c := 2) (j := 0) (N := 4) dX3_tray_66 rfl hin2 (by decide) rfl (by decide) rfl wF_3_139
theorem s27_69 {l : Launch} {G : KG} : kOpOK l G 27 69 (.inr (.inl (40, 1, 72))) := ⟨snd_callS dX3_tray_69 rfl mok_40 rfl rfl rfl wM_3_52 wS_X3_sumOf wI_3 (by decide) ⟨rfl, rfl⟩, rfl, mok_40, by decide⟩
theorem s27_72 {l : Launch} {G : KG} : kOpOK l G 27 72 (.inr (.inr 1)) := ⟨rfl, Or.inr (Or.inl ⟨rfl, dX3_tray_72, rfl⟩)⟩
theorem s27_73 {l : Launch} {G : KG} : kOpOK l G 27 73 (.inl (g_ald 3 74)) := snd_aload_n dX3_tray_73 rfl
theorem s27_74 {l : Launch} {G : KG} : kOpOK l G 27 74 (.inl (g_gfi 2 2 77)) := snd_gfi (c := 2) (j := 2) (N := 4) dX3_tray_74 rfl hin2 (by decide) rfl (by decide) rfl wF_3_142
theorem s27_77 {l : Launch} {G : KG} : kOpOK l G 27 77 (.inr (.inr 1)) := ⟨rfl, Or.inr (Or.inl ⟨rfl, dX3_tray_77, rfl⟩)⟩
theorem s27_78 {l : Launch} {G : KG} : kOpOK l G 27 78 (.inl (g_ald 3 79)) := snd_aload_n dX3_tray_78 rfl
theorem s27_79 {l : Launch} {G : KG} : kOpOK l G 27 79 (.inl (g_gfi 2 3 82)) := snd_gfi (c := 2) (j := 3) (N := 4) dX3_tray_79 rfl hin2 (by decide) rfl (by decide) rfl wF_3_145
theorem s27_82 {l : Launch} {G : KG} : kOpOK l G 27 82 (.inr (.inr 1)) := ⟨rfl, Or.inr (Or.inl ⟨rfl, dX3_tray_82, rfl⟩)⟩
theorem s27_83 {l : Launch} {G : KG} : kOpOK l G 27 83 (.inl (g_ald 3 84)) := snd_aload_n dX3_tray_83 rfl
theorem s27_84 {l : Launch} {G : KG} : kOpOK l G 27 84 (.inl (g_ald 0 85)) := snd_aload_n dX3_tray_84 rfl
theorem s27_85 {l : Launch} {G : KG} : kOpOK l G 27 85 (.inl (g_gfr 3 0 88)) := snd_gfr (c := 3) (j := 0) (N := 6) dX3_tray_85 rfl hin3 (by decide) rfl (by decide) rfl wF_3_10
theorem s27_88 {l : Launch} {G : KG} : kOpOK l G 27 88 (.inl (g_gfi 1 6 91)) := snd_gfi (c := 1) (j := 6) (N := 14) dX3_tray_88 rfl hin1 (by decide) rfl (by decide) rfl wF_3_96
theorem s27_91 {l : Launch} {G : KG} : kOpOK l G 27 91 (.inr (.inl (13, 2, 94))) := ⟨snd_callV (c := 2) dX3_tray_91 rfl mok_13 rfl rfl rfl rfl (by decide) rfl wM_3_148 wN_X2_openness wL_X2_openness wI_2 (by decide) ⟨rfl, rfl⟩, rfl, mok_13, by decide⟩
theorem s27_94 {l : Launch} {G : KG} : kOpOK l G 27 94 (.inr (.inr 1)) := ⟨rfl, Or.inr (Or.inl ⟨rfl, dX3_tray_94, rfl⟩)⟩
theorem s27_95 {l : Launch} {G : KG} : kOpOK l G 27 95 (.inl (g_push (-1) 96)) := snd_iconst dX3_tray_95 rfl
theorem s27_96 {l : Launch} {G : KG} : kOpOK l G 27 96 (.inr (.inr 1)) := ⟨rfl, Or.inr (Or.inl ⟨rfl, dX3_tray_96, rfl⟩)⟩
theorem s28_0 {l : Launch} {G : KG} : kOpOK l G 28 0 (.inl (g_ald 0 1)) := snd_aload_n dX3_on_0 rfl
theorem s28_1 {l : Launch} {G : KG} : kOpOK l G 28 1 (.inl (g_gfr 3 0 4)) := snd_gfr (c := 3) (j := 0) (N := 6) dX3_on_1 rfl hin3 (by decide) rfl (by decide) rfl wF_3_10
theorem s28_4 {l : Launch} {G : KG} : kOpOK l G 28 4 (.inl (g_ild 1 5)) := snd_iload_n dX3_on_4 rfl
theorem s28_5 {l : Launch} {G : KG} : kOpOK l G 28 5 (.inr (.inl (1, 2, 8))) := ⟨snd_callV (c := 1) dX3_on_5 rfl mok_1 rfl rfl rfl rfl (by decide) rfl wM_3_127 wN_X1_isTray wL_X1_isTray wI_1 (by decide) ⟨rfl, rfl⟩, rfl, mok_1, by decide⟩
theorem s28_8 {l : Launch} {G : KG} : kOpOK l G 28 8 (.inl (g_br1 (fun x => decide (x = 0)) 18 11)) := snd_if_eq dX3_on_8 (by decide)
theorem s28_11 {l : Launch} {G : KG} : kOpOK l G 28 11 (.inl (g_ild 2 12)) := snd_iload_n dX3_on_11 rfl
theorem s28_12 {l : Launch} {G : KG} : kOpOK l G 28 12 (.inr (.inl (38, 1, 15))) := ⟨snd_callS dX3_on_12 rfl mok_38 rfl rfl rfl wM_3_30 wS_X3_isClass wI_3 (by decide) ⟨rfl, rfl⟩, rfl, mok_38, by decide⟩
theorem s28_15 {l : Launch} {G : KG} : kOpOK l G 28 15 (.inl (g_br1 (fun x => decide (¬ x = 0)) 20 18)) := snd_if_ne dX3_on_15 (by decide)
theorem s28_18 {l : Launch} {G : KG} : kOpOK l G 28 18 (.inl (g_push (-1) 19)) := snd_iconst dX3_on_18 rfl
theorem s28_19 {l : Launch} {G : KG} : kOpOK l G 28 19 (.inr (.inr 1)) := ⟨rfl, Or.inr (Or.inl ⟨rfl, dX3_on_19, rfl⟩)⟩
theorem s28_20 {l : Launch} {G : KG} : kOpOK l G 28 20 (.inl (g_ald 0 21)) := snd_aload_n dX3_on_20 rfl
theorem s28_21 {l : Launch} {G : KG} : kOpOK l G 28 21 (.inl (g_gfr 3 0 24)) := snd_gfr (c := 3) (j := 0) (N := 6) dX3_on_21 rfl hin3 (by decide) rfl (by decide) rfl wF_3_10
theorem s28_24 {l : Launch} {G : KG} : kOpOK l G 28 24 (.inl (g_gfr 1 2 27)) := snd_gfr (c := 1) (j := 2) (N := 14) dX3_on_24 rfl hin1 (by decide) rfl (by decide) rfl wF_3_130
theorem s28_27 {l : Launch} {G : KG} : kOpOK l G 28 27 (.inl (g_ild 1 28)) := snd_iload_n dX3_on_27 rfl
theorem s28_28 {l : Launch} {G : KG} : kOpOK l G 28 28 (.inl (g_aald 9 29)) := snd_aald9 dX3_on_28
theorem s28_29 {l : Launch} {G : KG} : kOpOK l G 28 29 (.inl (g_gfr 2 0 32)) := snd_gfr (c := 2) (j := 0) (N := 4) dX3_on_29 rfl hin2 (by decide) rfl (by decide) rfl wF_3_139
theorem s28_32 {l : Launch} {G : KG} : kOpOK l G 28 32 (.inl (g_ild 2 33)) := snd_iload_n dX3_on_32 rfl
theorem s28_33 {l : Launch} {G : KG} : kOpOK l G 28 33 (.inl (g_pald 5 34)) := snd_pald5 dX3_on_33
theorem s28_34 {l : Launch} {G : KG} : kOpOK l G 28 34 (.inr (.inr 1)) := ⟨rfl, Or.inr (Or.inl ⟨rfl, dX3_on_34, rfl⟩)⟩
theorem s29_0 {l : Launch} {G : KG} : kOpOK l G 29 0 (.inl (g_ald 0 1)) := snd_aload_n dX3_charge_0 rfl
theorem s29_1 {l : Launch} {G : KG} : kOpOK l G 29 1 (.inl (g_gfr 3 0 4)) := snd_gfr (c := 3) (j := 0) (N := 6) dX3_charge_1 rfl hin3 (by decide) rfl (by decide) rfl wF_3_10
theorem s29_4 {l : Launch} {G : KG} : kOpOK l G 29 4 (.inl (g_gfr 1 0 7)) := snd_gfr (c := 1) (j := 0) (N := 14) dX3_charge_4 rfl hin1 (by decide) rfl (by decide) rfl wF_3_41
theorem s29_7 {l : Launch} {G : KG} : kOpOK l G 29 7 (.inr (.inl (40, 1, 10))) := ⟨snd_callS dX3_charge_7 rfl mok_40 rfl rfl rfl wM_3_52 wS_X3_sumOf wI_3 (by decide) ⟨rfl, rfl⟩, rfl, mok_40, by decide⟩
theorem s29_10 {l : Launch} {G : KG} : kOpOK l G 29 10 (.inl (g_ist 1 11)) := snd_istore_n dX3_charge_10 rfl
theorem s29_11 {l : Launch} {G : KG} : kOpOK l G 29 11 (.inl (g_ald 0 12)) := snd_aload_n dX3_charge_11 rfl
theorem s29_12 {l : Launch} {G : KG} : kOpOK l G 29 12 (.inl (g_gfr 3 0 15)) := snd_gfr (c := 3) (j := 0) (N := 6) dX3_charge_12 rfl hin3 (by decide) rfl (by decide) rfl wF_3_10
theorem s29_15 {l : Launch} {G : KG} : kOpOK l G 29 15 (.inl (g_gfi 1 5 18)) := snd_gfi (c := 1) (j := 5) (N := 14) dX3_charge_15 rfl hin1 (by decide) rfl (by decide) rfl wF_3_83
theorem s29_18 {l : Launch} {G : KG} : kOpOK l G 29 18 (.inl (g_br1 (fun x => decide (x = 0)) 25 21)) := snd_if_eq dX3_charge_18 (by decide)
theorem s29_21 {l : Launch} {G : KG} : kOpOK l G 29 21 (.inl (g_ild 1 22)) := snd_iload_n dX3_charge_21 rfl
theorem s29_22 {l : Launch} {G : KG} : kOpOK l G 29 22 (.inl (g_br1 (fun x => decide (¬ x = 0)) 28 25)) := snd_if_ne dX3_charge_22 (by decide)
theorem s29_25 {l : Launch} {G : KG} : kOpOK l G 29 25 (.inl (g_push (-2) 27)) := snd_bipush dX3_charge_25 rfl
theorem s29_27 {l : Launch} {G : KG} : kOpOK l G 29 27 (.inr (.inr 1)) := ⟨rfl, Or.inr (Or.inl ⟨rfl, dX3_charge_27, rfl⟩)⟩
theorem s29_28 {l : Launch} {G : KG} : kOpOK l G 29 28 (.inl (g_ald 0 29)) := snd_aload_n dX3_charge_28 rfl
theorem s29_29 {l : Launch} {G : KG} : kOpOK l G 29 29 (.inr (.inl (36, 1, 32))) := ⟨snd_callV (c := 3) dX3_charge_29 rfl mok_36 rfl rfl rfl rfl (by decide) rfl wM_3_38 wN_X3_saveState wL_X3_saveState wI_3 (by decide) ⟨rfl, rfl⟩, rfl, mok_36, by decide⟩
theorem s29_32 {l : Launch} {G : KG} : kOpOK l G 29 32 (.inl (g_ald 0 33)) := snd_aload_n dX3_charge_32 rfl
theorem s29_33 {l : Launch} {G : KG} : kOpOK l G 29 33 (.inl (g_gfr 3 0 36)) := snd_gfr (c := 3) (j := 0) (N := 6) dX3_charge_33 rfl hin3 (by decide) rfl (by decide) rfl wF_3_10
theorem s29_36 {l : Launch} {G : KG} : kOpOK l G 29 36 (.inr (.inl (7, 1, 39))) := ⟨snd_callV (c := 1) dX3_charge_36 rfl mok_7 rfl rfl rfl rfl (by decide) rfl wM_3_86 wN_X1_endAnalysis wL_X1_endAnalysis wI_1 (by decide) ⟨rfl, rfl⟩, rfl, mok_7, by decide⟩
theorem s29_39 {l : Launch} {G : KG} : kOpOK l G 29 39 (.inl (g_ald 0 40)) := snd_aload_n dX3_charge_39 rfl
theorem s29_40 {l : Launch} {G : KG} : kOpOK l G 29 40 (.inl (g_gfr 3 0 43)) := snd_gfr (c := 3) (j := 0) (N := 6) dX3_charge_40 rfl hin3 (by decide) rfl (by decide) rfl wF_3_10
theorem s29_43 {l : Launch} {G : KG} : kOpOK l G 29 43 (.inl (g_ild 1 44)) := snd_iload_n dX3_charge_43 rfl
theorem s29_44 {l : Launch} {G : KG} : kOpOK l G 29 44 (.inr (.inl (8, 2, 47))) := ⟨snd_callV (c := 1) dX3_charge_44 rfl mok_8 rfl rfl rfl rfl (by decide) rfl wM_3_151 wN_X1_beginAnalysis wL_X1_beginAnalysis wI_1 (by decide) ⟨rfl, rfl⟩, rfl, mok_8, by decide⟩
theorem s29_47 {l : Launch} {G : KG} : kOpOK l G 29 47 (.inl (g_ild 1 48)) := snd_iload_n dX3_charge_47 rfl
theorem s29_48 {l : Launch} {G : KG} : kOpOK l G 29 48 (.inr (.inr 1)) := ⟨rfl, Or.inr (Or.inl ⟨rfl, dX3_charge_48, rfl⟩)⟩
theorem s30_0 {l : Launch} {G : KG} : kOpOK l G 30 0 (.inl (g_ild 1 1)) := snd_iload_n dX3_shake_0 rfl
theorem s30_1 {l : Launch} {G : KG} : kOpOK l G 30 1 (.inl (g_push 1 2)) := snd_iconst dX3_shake_1 rfl
theorem s30_2 {l : Launch} {G : KG} : kOpOK l G 30 2 (.inl (g_push 200 5)) := snd_sipush dX3_shake_2 rfl
theorem s30_5 {l : Launch} {G : KG} : kOpOK l G 30 5 (.inr (.inl (37, 3, 8))) := ⟨snd_callS dX3_shake_5 rfl mok_37 rfl rfl rfl wM_3_34 wS_X3_isIn wI_3 (by decide) ⟨rfl, rfl⟩, rfl, mok_37, by decide⟩
theorem s30_8 {l : Launch} {G : KG} : kOpOK l G 30 8 (.inl (g_br1 (fun x => decide (¬ x = 0)) 13 11)) := snd_if_ne dX3_shake_8 (by decide)
theorem s30_11 {l : Launch} {G : KG} : kOpOK l G 30 11 (.inl (g_push (-1) 12)) := snd_iconst dX3_shake_11 rfl
theorem s30_12 {l : Launch} {G : KG} : kOpOK l G 30 12 (.inr (.inr 1)) := ⟨rfl, Or.inr (Or.inl ⟨rfl, dX3_shake_12, rfl⟩)⟩
theorem s30_13 {l : Launch} {G : KG} : kOpOK l G 30 13 (.inl (g_ald 0 14)) := snd_aload_n dX3_shake_13 rfl
theorem s30_14 {l : Launch} {G : KG} : kOpOK l G 30 14 (.inl (g_gfr 3 0 17)) := snd_gfr (c := 3) (j := 0) (N := 6) dX3_shake_14 rfl hin3 (by decide) rfl (by decide) rfl wF_3_10
theorem s30_17 {l : Launch} {G : KG} : kOpOK l G 30 17 (.inl (g_gfi 1 10 20)) := snd_gfi (c := 1) (j := 10) (N := 14) dX3_shake_17 rfl hin1 (by decide) rfl (by decide) rfl wF_3_114
theorem s30_20 {l : Launch} {G : KG} : kOpOK l G 30 20 (.inl (g_br1 (fun x => decide (¬ x = 0)) 26 23)) := snd_if_ne dX3_shake_20 (by decide)
theorem s30_23 {l : Launch} {G : KG} : kOpOK l G 30 23 (.inl (g_push (-2) 25)) := snd_bipush dX3_shake_23 rfl
theorem s30_25 {l : Launch} {G : KG} : kOpOK l G 30 25 (.inr (.inr 1)) := ⟨rfl, Or.inr (Or.inl ⟨rfl, dX3_shake_25, rfl⟩)⟩
theorem s30_26 {l : Launch} {G : KG} : kOpOK l G 30 26 (.inl (g_ald 0 27)) := snd_aload_n dX3_shake_26 rfl
theorem s30_27 {l : Launch} {G : KG} : kOpOK l G 30 27 (.inr (.inl (36, 1, 30))) := ⟨snd_callV (c := 3) dX3_shake_27 rfl mok_36 rfl rfl rfl rfl (by decide) rfl wM_3_38 wN_X3_saveState wL_X3_saveState wI_3 (by decide) ⟨rfl, rfl⟩, rfl, mok_36, by decide⟩
theorem s30_30 {l : Launch} {G : KG} : kOpOK l G 30 30 (.inl (g_push 0 31)) := snd_iconst dX3_shake_30 rfl
theorem s30_31 {l : Launch} {G : KG} : kOpOK l G 30 31 (.inl (g_ist 2 32)) := snd_istore_n dX3_shake_31 rfl
theorem s30_32 {l : Launch} {G : KG} : kOpOK l G 30 32 (.inl (g_push 0 33)) := snd_iconst dX3_shake_32 rfl
theorem s30_33 {l : Launch} {G : KG} : kOpOK l G 30 33 (.inl (g_ist 3 34)) := snd_istore_n dX3_shake_33 rfl
theorem s30_34 {l : Launch} {G : KG} : kOpOK l G 30 34 (.inl (g_ild 3 35)) := snd_iload_n dX3_shake_34 rfl
theorem s30_35 {l : Launch} {G : KG} : kOpOK l G 30 35 (.inl (g_ild 1 36)) := snd_iload_n dX3_shake_35 rfl
theorem s30_36 {l : Launch} {G : KG} : kOpOK l G 30 36 (.inl (g_br2 (fun x y => decide (y ≤ x)) 55 39)) := snd_icmp_ge dX3_shake_36 (by decide)
theorem s30_39 {l : Launch} {G : KG} : kOpOK l G 30 39 (.inl (g_ild 2 40)) := snd_iload_n dX3_shake_39 rfl
theorem s30_40 {l : Launch} {G : KG} : kOpOK l G 30 40 (.inl (g_ald 0 41)) := snd_aload_n dX3_shake_40 rfl
theorem s30_41 {l : Launch} {G : KG} : kOpOK l G 30 41 (.inl (g_gfr 3 0 44)) := snd_gfr (c := 3) (j := 0) (N := 6) dX3_shake_41 rfl hin3 (by decide) rfl (by decide) rfl wF_3_10
theorem s30_44 {l : Launch} {G : KG} : kOpOK l G 30 44 (.inr (.inl (9, 1, 47))) := ⟨snd_callV (c := 1) dX3_shake_44 rfl mok_9 rfl rfl rfl rfl (by decide) rfl wM_3_154 wN_X1_shakeOneMinute wL_X1_shakeOneMinute wI_1 (by decide) ⟨rfl, rfl⟩, rfl, mok_9, by decide⟩
theorem s30_47 {l : Launch} {G : KG} : kOpOK l G 30 47 (.inl (g_iop (fun x y => x + y) 48)) := snd_iadd dX3_shake_47
theorem s30_48 {l : Launch} {G : KG} : kOpOK l G 30 48 (.inl (g_ist 2 49)) := snd_istore_n dX3_shake_48 rfl
theorem s30_49 {l : Launch} {G : KG} : kOpOK l G 30 49 (.inl (g_iinc 3 1 52)) := snd_iinc dX3_shake_49 rfl
theorem s30_52 {l : Launch} {G : KG} : kOpOK l G 30 52 (.inl (g_goto 34)) := snd_goto dX3_shake_52 (by decide)
theorem s30_55 {l : Launch} {G : KG} : kOpOK l G 30 55 (.inl (g_ild 2 56)) := snd_iload_n dX3_shake_55 rfl
theorem s30_56 {l : Launch} {G : KG} : kOpOK l G 30 56 (.inr (.inr 1)) := ⟨rfl, Or.inr (Or.inl ⟨rfl, dX3_shake_56, rfl⟩)⟩
theorem s31_0 {l : Launch} {G : KG} : kOpOK l G 31 0 (.inl (g_ald 0 1)) := snd_aload_n dX3_collect_0 rfl
theorem s31_1 {l : Launch} {G : KG} : kOpOK l G 31 1 (.inl (g_gfr 3 0 4)) := snd_gfr (c := 3) (j := 0) (N := 6) dX3_collect_1 rfl hin3 (by decide) rfl (by decide) rfl wF_3_10
theorem s31_4 {l : Launch} {G : KG} : kOpOK l G 31 4 (.inl (g_ild 1 5)) := snd_iload_n dX3_collect_4 rfl
theorem s31_5 {l : Launch} {G : KG} : kOpOK l G 31 5 (.inr (.inl (1, 2, 8))) := ⟨snd_callV (c := 1) dX3_collect_5 rfl mok_1 rfl rfl rfl rfl (by decide) rfl wM_3_127 wN_X1_isTray wL_X1_isTray wI_1 (by decide) ⟨rfl, rfl⟩, rfl, mok_1, by decide⟩
theorem s31_8 {l : Launch} {G : KG} : kOpOK l G 31 8 (.inl (g_br1 (fun x => decide (¬ x = 0)) 13 11)) := snd_if_ne dX3_collect_8 (by decide)
theorem s31_11 {l : Launch} {G : KG} : kOpOK l G 31 11 (.inl (g_push (-1) 12)) := snd_iconst dX3_collect_11 rfl
theorem s31_12 {l : Launch} {G : KG} : kOpOK l G 31 12 (.inr (.inr 1)) := ⟨rfl, Or.inr (Or.inl ⟨rfl, dX3_collect_12, rfl⟩)⟩
theorem s31_13 {l : Launch} {G : KG} : kOpOK l G 31 13 (.inl (g_ald 0 14)) := snd_aload_n dX3_collect_13 rfl
theorem s31_14 {l : Launch} {G : KG} : kOpOK l G 31 14 (.inl (g_gfr 3 0 17)) := snd_gfr (c := 3) (j := 0) (N := 6) dX3_collect_14 rfl hin3 (by decide) rfl (by decide) rfl wF_3_10
theorem s31_17 {l : Launch} {G : KG} : kOpOK l G 31 17 (.inl (g_gfi 1 10 20)) := snd_gfi (c := 1) (j := 10) (N := 14) dX3_collect_17 rfl hin1 (by decide) rfl (by decide) rfl wF_3_114
theorem s31_20 {l : Launch} {G : KG} : kOpOK l G 31 20 (.inl (g_br1 (fun x => decide (¬ x = 0)) 26 23)) := snd_if_ne dX3_collect_20 (by decide)
theorem s31_23 {l : Launch} {G : KG} : kOpOK l G 31 23 (.inl (g_push (-2) 25)) := snd_bipush dX3_collect_23 rfl
theorem s31_25 {l : Launch} {G : KG} : kOpOK l G 31 25 (.inr (.inr 1)) := ⟨rfl, Or.inr (Or.inl ⟨rfl, dX3_collect_25, rfl⟩)⟩
theorem s31_26 {l : Launch} {G : KG} : kOpOK l G 31 26 (.inl (g_ald 0 27)) := snd_aload_n dX3_collect_26 rfl
theorem s31_27 {l : Launch} {G : KG} : kOpOK l G 31 27 (.inr (.inl (36, 1, 30))) := ⟨snd_callV (c := 3) dX3_collect_27 rfl mok_36 rfl rfl rfl rfl (by decide) rfl wM_3_38 wN_X3_saveState wL_X3_saveState wI_3 (by decide) ⟨rfl, rfl⟩, rfl, mok_36, by decide⟩
theorem s31_30 {l : Launch} {G : KG} : kOpOK l G 31 30 (.inl (g_ald 0 31)) := snd_aload_n dX3_collect_30 rfl
theorem s31_31 {l : Launch} {G : KG} : kOpOK l G 31 31 (.inl (g_gfr 3 0 34)) := snd_gfr (c := 3) (j := 0) (N := 6) dX3_collect_31 rfl hin3 (by decide) rfl (by decide) rfl wF_3_10
theorem s31_34 {l : Launch} {G : KG} : kOpOK l G 31 34 (.inl (g_gfr 1 2 37)) := snd_gfr (c := 1) (j := 2) (N := 14) dX3_collect_34 rfl hin1 (by decide) rfl (by decide) rfl wF_3_130
theorem s31_37 {l : Launch} {G : KG} : kOpOK l G 31 37 (.inl (g_ild 1 38)) := snd_iload_n dX3_collect_37 rfl
theorem s31_38 {l : Launch} {G : KG} : kOpOK l G 31 38 (.inl (g_aald 9 39)) := snd_aald9 dX3_collect_38
theorem s31_39 {l : Launch} {G : KG} : kOpOK l G 31 39 (.inl (g_ast 2 40)) := snd_astore_n dX3_collect_39 rfl
theorem s31_40 {l : Launch} {G : KG} : kOpOK l G 31 40 (.inl (g_ald 2 41)) := snd_aload_n dX3_collect_40 rfl
theorem s31_41 {l : Launch} {G : KG} : kOpOK l G 31 41 (.inl (g_gfr 2 0 44)) := snd_gfr (c := 2) (j := 0) (N := 4) dX3_collect_41 rfl hin2 (by decide) rfl (by decide) rfl wF_3_139
theorem s31_44 {l : Launch} {G : KG} : kOpOK l G 31 44 (.inr (.inl (40, 1, 47))) := ⟨snd_callS dX3_collect_44 rfl mok_40 rfl rfl rfl wM_3_52 wS_X3_sumOf wI_3 (by decide) ⟨rfl, rfl⟩, rfl, mok_40, by decide⟩
theorem s31_47 {l : Launch} {G : KG} : kOpOK l G 31 47 (.inl (g_ist 3 48)) := snd_istore_n dX3_collect_47 rfl
theorem s31_48 {l : Launch} {G : KG} : kOpOK l G 31 48 (.inl (g_ald 2 49)) := snd_aload_n dX3_collect_48 rfl
theorem s31_49 {l : Launch} {G : KG} : kOpOK l G 31 49 (.inl (g_dup 50)) := snd_dup dX3_collect_49
theorem s31_50 {l : Launch} {G : KG} : kOpOK l G 31 50 (.inl (g_gfi 2 3 53)) := snd_gfi (c := 2) (j := 3) (N := 4) dX3_collect_50 rfl hin2 (by decide) rfl (by decide) rfl wF_3_145
theorem s31_53 {l : Launch} {G : KG} : kOpOK l G 31 53 (.inl (g_ild 3 54)) := snd_iload_n dX3_collect_53 rfl
theorem s31_54 {l : Launch} {G : KG} : kOpOK l G 31 54 (.inl (g_iop (fun x y => x + y) 55)) := snd_iadd dX3_collect_54
theorem s31_55 {l : Launch} {G : KG} : kOpOK l G 31 55 (.inl (g_pfi 2 3 58)) := snd_pfi (c := 2) (j := 3) (N := 4) dX3_collect_55 rfl hin2 (by decide) rfl (by decide) rfl wF_3_145 tyX2 tyX2_ok nmX2 rfl (by decide +kernel)
theorem s31_58 {l : Launch} {G : KG} : kOpOK l G 31 58 (.inl (g_ald 2 59)) := snd_aload_n dX3_collect_58 rfl
theorem s31_59 {l : Launch} {G : KG} : kOpOK l G 31 59 (.inl (g_gfr 2 0 62)) := snd_gfr (c := 2) (j := 0) (N := 4) dX3_collect_59 rfl hin2 (by decide) rfl (by decide) rfl wF_3_139
theorem s31_62 {l : Launch} {G : KG} : kOpOK l G 31 62 (.inr (.inl (41, 1, 65))) := ⟨snd_callS dX3_collect_62 rfl mok_41 rfl rfl rfl wM_3_157 wS_X3_clearRow wI_3 (by decide) ⟨rfl, rfl⟩, rfl, mok_41, by decide⟩
theorem s31_65 {l : Launch} {G : KG} : kOpOK l G 31 65 (.inl (g_ild 3 66)) := snd_iload_n dX3_collect_65 rfl
theorem s31_66 {l : Launch} {G : KG} : kOpOK l G 31 66 (.inr (.inr 1)) := ⟨rfl, Or.inr (Or.inl ⟨rfl, dX3_collect_66, rfl⟩)⟩
theorem s32_0 {l : Launch} {G : KG} : kOpOK l G 32 0 (.inl (g_ald 0 1)) := snd_aload_n dX3_brush_0 rfl
theorem s32_1 {l : Launch} {G : KG} : kOpOK l G 32 1 (.inl (g_gfr 3 0 4)) := snd_gfr (c := 3) (j := 0) (N := 6) dX3_brush_1 rfl hin3 (by decide) rfl (by decide) rfl wF_3_10
theorem s32_4 {l : Launch} {G : KG} : kOpOK l G 32 4 (.inl (g_ild 1 5)) := snd_iload_n dX3_brush_4 rfl
theorem s32_5 {l : Launch} {G : KG} : kOpOK l G 32 5 (.inr (.inl (2, 2, 8))) := ⟨snd_callV (c := 1) dX3_brush_5 rfl mok_2 rfl rfl rfl rfl (by decide) rfl wM_3_161 wN_X1_isSieve wL_X1_isSieve wI_1 (by decide) ⟨rfl, rfl⟩, rfl, mok_2, by decide⟩
theorem s32_8 {l : Launch} {G : KG} : kOpOK l G 32 8 (.inl (g_br1 (fun x => decide (x = 0)) 20 11)) := snd_if_eq dX3_brush_8 (by decide)
theorem s32_11 {l : Launch} {G : KG} : kOpOK l G 32 11 (.inl (g_ild 2 12)) := snd_iload_n dX3_brush_11 rfl
theorem s32_12 {l : Launch} {G : KG} : kOpOK l G 32 12 (.inl (g_push 0 13)) := snd_iconst dX3_brush_12 rfl
theorem s32_13 {l : Launch} {G : KG} : kOpOK l G 32 13 (.inl (g_push 1 14)) := snd_iconst dX3_brush_13 rfl
theorem s32_14 {l : Launch} {G : KG} : kOpOK l G 32 14 (.inr (.inl (37, 3, 17))) := ⟨snd_callS dX3_brush_14 rfl mok_37 rfl rfl rfl wM_3_34 wS_X3_isIn wI_3 (by decide) ⟨rfl, rfl⟩, rfl, mok_37, by decide⟩
theorem s32_17 {l : Launch} {G : KG} : kOpOK l G 32 17 (.inl (g_br1 (fun x => decide (¬ x = 0)) 22 20)) := snd_if_ne dX3_brush_17 (by decide)
theorem s32_20 {l : Launch} {G : KG} : kOpOK l G 32 20 (.inl (g_push (-1) 21)) := snd_iconst dX3_brush_20 rfl
theorem s32_21 {l : Launch} {G : KG} : kOpOK l G 32 21 (.inr (.inr 1)) := ⟨rfl, Or.inr (Or.inl ⟨rfl, dX3_brush_21, rfl⟩)⟩
theorem s32_22 {l : Launch} {G : KG} : kOpOK l G 32 22 (.inl (g_ald 0 23)) := snd_aload_n dX3_brush_22 rfl
theorem s32_23 {l : Launch} {G : KG} : kOpOK l G 32 23 (.inl (g_gfr 3 0 26)) := snd_gfr (c := 3) (j := 0) (N := 6) dX3_brush_23 rfl hin3 (by decide) rfl (by decide) rfl wF_3_10
theorem s32_26 {l : Launch} {G : KG} : kOpOK l G 32 26 (.inl (g_gfi 1 10 29)) := snd_gfi (c := 1) (j := 10) (N := 14) dX3_brush_26 rfl hin1 (by decide) rfl (by decide) rfl wF_3_114
theorem s32_29 {l : Launch} {G : KG} : kOpOK l G 32 29 (.inl (g_br1 (fun x => decide (¬ x = 0)) 35 32)) := snd_if_ne dX3_brush_29 (by decide)
theorem s32_32 {l : Launch} {G : KG} : kOpOK l G 32 32 (.inl (g_push (-2) 34)) := snd_bipush dX3_brush_32 rfl
theorem s32_34 {l : Launch} {G : KG} : kOpOK l G 32 34 (.inr (.inr 1)) := ⟨rfl, Or.inr (Or.inl ⟨rfl, dX3_brush_34, rfl⟩)⟩
theorem s32_35 {l : Launch} {G : KG} : kOpOK l G 32 35 (.inl (g_ald 0 36)) := snd_aload_n dX3_brush_35 rfl
theorem s32_36 {l : Launch} {G : KG} : kOpOK l G 32 36 (.inr (.inl (36, 1, 39))) := ⟨snd_callV (c := 3) dX3_brush_36 rfl mok_36 rfl rfl rfl rfl (by decide) rfl wM_3_38 wN_X3_saveState wL_X3_saveState wI_3 (by decide) ⟨rfl, rfl⟩, rfl, mok_36, by decide⟩
theorem s32_39 {l : Launch} {G : KG} : kOpOK l G 32 39 (.inl (g_ald 0 40)) := snd_aload_n dX3_brush_39 rfl
theorem s32_40 {l : Launch} {G : KG} : kOpOK l G 32 40 (.inl (g_gfr 3 0 43)) := snd_gfr (c := 3) (j := 0) (N := 6) dX3_brush_40 rfl hin3 (by decide) rfl (by decide) rfl wF_3_10
theorem s32_43 {l : Launch} {G : KG} : kOpOK l G 32 43 (.inl (g_gfr 1 2 46)) := snd_gfr (c := 1) (j := 2) (N := 14) dX3_brush_43 rfl hin1 (by decide) rfl (by decide) rfl wF_3_130
theorem s32_46 {l : Launch} {G : KG} : kOpOK l G 32 46 (.inl (g_ild 1 47)) := snd_iload_n dX3_brush_46 rfl
theorem s32_47 {l : Launch} {G : KG} : kOpOK l G 32 47 (.inl (g_aald 9 48)) := snd_aald9 dX3_brush_47
theorem s32_48 {l : Launch} {G : KG} : kOpOK l G 32 48 (.inl (g_ast 3 49)) := snd_astore_n dX3_brush_48 rfl
theorem s32_49 {l : Launch} {G : KG} : kOpOK l G 32 49 (.inl (g_ald 3 50)) := snd_aload_n dX3_brush_49 rfl
theorem s32_50 {l : Launch} {G : KG} : kOpOK l G 32 50 (.inl (g_gfi 2 2 53)) := snd_gfi (c := 2) (j := 2) (N := 4) dX3_brush_50 rfl hin2 (by decide) rfl (by decide) rfl wF_3_142
theorem s32_53 {l : Launch} {G : KG} : kOpOK l G 32 53 (.inl (g_ist 4 55)) := snd_istore dX3_brush_53
theorem s32_55 {l : Launch} {G : KG} : kOpOK l G 32 55 (.inl (g_ald 3 56)) := snd_aload_n dX3_brush_55 rfl
theorem s32_56 {l : Launch} {G : KG} : kOpOK l G 32 56 (.inl (g_push 0 57)) := snd_iconst dX3_brush_56 rfl
theorem s32_57 {l : Launch} {G : KG} : kOpOK l G 32 57 (.inl (g_pfi 2 2 60)) := snd_pfi (c := 2) (j := 2) (N := 4) dX3_brush_57 rfl hin2 (by decide) rfl (by decide) rfl wF_3_142 tyX2 tyX2_ok nmX2 rfl (by decide +kernel)
theorem s32_60 {l : Launch} {G : KG} : kOpOK l G 32 60 (.inl (g_ild 2 61)) := snd_iload_n dX3_brush_60 rfl
theorem s32_61 {l : Launch} {G : KG} : kOpOK l G 32 61 (.inl (g_push 1 62)) := snd_iconst dX3_brush_61 rfl
theorem s32_62 {l : Launch} {G : KG} : kOpOK l G 32 62 (.inl (g_br2 (fun x y => decide (¬ x = y)) 76 65)) := snd_icmp_ne dX3_brush_62 (by decide)
theorem s32_65 {l : Launch} {G : KG} : kOpOK l G 32 65 (.inl (g_ald 3 66)) := snd_aload_n dX3_brush_65 rfl
theorem s32_66 {l : Launch} {G : KG} : kOpOK l G 32 66 (.inl (g_dup 67)) := snd_dup dX3_brush_66
theorem s32_67 {l : Launch} {G : KG} : kOpOK l G 32 67 (.inl (g_gfi 2 3 70)) := snd_gfi (c := 2) (j := 3) (N := 4) dX3_brush_67 rfl hin2 (by decide) rfl (by decide) rfl wF_3_145
theorem s32_70 {l : Launch} {G : KG} : kOpOK l G 32 70 (.inl (g_ild 4 72)) := snd_iload dX3_brush_70
theorem s32_72 {l : Launch} {G : KG} : kOpOK l G 32 72 (.inl (g_iop (fun x y => x + y) 73)) := snd_iadd dX3_brush_72
theorem s32_73 {l : Launch} {G : KG} : kOpOK l G 32 73 (.inl (g_pfi 2 3 76)) := snd_pfi (c := 2) (j := 3) (N := 4) dX3_brush_73 rfl hin2 (by decide) rfl (by decide) rfl wF_3_145 tyX2 tyX2_ok nmX2 rfl (by decide +kernel)
theorem s32_76 {l : Launch} {G : KG} : kOpOK l G 32 76 (.inl (g_ild 4 78)) := snd_iload dX3_brush_76
theorem s32_78 {l : Launch} {G : KG} : kOpOK l G 32 78 (.inr (.inr 1)) := ⟨rfl, Or.inr (Or.inl ⟨rfl, dX3_brush_78, rfl⟩)⟩
theorem s33_0 {l : Launch} {G : KG} : kOpOK l G 33 0 (.inl (g_ald 0 1)) := snd_aload_n dX3_loss_0 rfl
theorem s33_1 {l : Launch} {G : KG} : kOpOK l G 33 1 (.inl (g_gfr 3 0 4)) := snd_gfr (c := 3) (j := 0) (N := 6) dX3_loss_1 rfl hin3 (by decide) rfl (by decide) rfl wF_3_10
theorem s33_4 {l : Launch} {G : KG} : kOpOK l G 33 4 (.inl (g_gfi 1 10 7)) := snd_gfi (c := 1) (j := 10) (N := 14) dX3_loss_4 rfl hin1 (by decide) rfl (by decide) rfl wF_3_114
theorem s33_7 {l : Launch} {G : KG} : kOpOK l G 33 7 (.inl (g_br1 (fun x => decide (¬ x = 0)) 13 10)) := snd_if_ne dX3_loss_7 (by decide)
theorem s33_10 {l : Launch} {G : KG} : kOpOK l G 33 10 (.inl (g_push (-2) 12)) := snd_bipush dX3_loss_10 rfl
theorem s33_12 {l : Launch} {G : KG} : kOpOK l G 33 12 (.inr (.inr 1)) := ⟨rfl, Or.inr (Or.inl ⟨rfl, dX3_loss_12, rfl⟩)⟩
theorem s33_13 {l : Launch} {G : KG} : kOpOK l G 33 13 (.inl (g_ald 0 14)) := snd_aload_n dX3_loss_13 rfl
theorem s33_14 {l : Launch} {G : KG} : kOpOK l G 33 14 (.inl (g_gfr 3 0 17)) := snd_gfr (c := 3) (j := 0) (N := 6) dX3_loss_14 rfl hin3 (by decide) rfl (by decide) rfl wF_3_10
theorem s33_17 {l : Launch} {G : KG} : kOpOK l G 33 17 (.inr (.inl (10, 1, 20))) := ⟨snd_callV (c := 1) dX3_loss_17 rfl mok_10 rfl rfl rfl rfl (by decide) rfl wM_3_164 wN_X1_lostMass wL_X1_lostMass wI_1 (by decide) ⟨rfl, rfl⟩, rfl, mok_10, by decide⟩
theorem s33_20 {l : Launch} {G : KG} : kOpOK l G 33 20 (.inr (.inr 1)) := ⟨rfl, Or.inr (Or.inl ⟨rfl, dX3_loss_20, rfl⟩)⟩
theorem s34_0 {l : Launch} {G : KG} : kOpOK l G 34 0 (.inl (g_ild 1 1)) := snd_iload_n dX3_minutesTo_0 rfl
theorem s34_1 {l : Launch} {G : KG} : kOpOK l G 34 1 (.inl (g_push 1 2)) := snd_iconst dX3_minutesTo_1 rfl
theorem s34_2 {l : Launch} {G : KG} : kOpOK l G 34 2 (.inl (g_push 9999 5)) := snd_sipush dX3_minutesTo_2 rfl
theorem s34_5 {l : Launch} {G : KG} : kOpOK l G 34 5 (.inr (.inl (37, 3, 8))) := ⟨snd_callS dX3_minutesTo_5 rfl mok_37 rfl rfl rfl wM_3_34 wS_X3_isIn wI_3 (by decide) ⟨rfl, rfl⟩, rfl, mok_37, by decide⟩
theorem s34_8 {l : Launch} {G : KG} : kOpOK l G 34 8 (.inl (g_br1 (fun x => decide (¬ x = 0)) 13 11)) := snd_if_ne dX3_minutesTo_8 (by decide)
theorem s34_11 {l : Launch} {G : KG} : kOpOK l G 34 11 (.inl (g_push (-1) 12)) := snd_iconst dX3_minutesTo_11 rfl
theorem s34_12 {l : Launch} {G : KG} : kOpOK l G 34 12 (.inr (.inr 1)) := ⟨rfl, Or.inr (Or.inl ⟨rfl, dX3_minutesTo_12, rfl⟩)⟩
theorem s34_13 {l : Launch} {G : KG} : kOpOK l G 34 13 (.inl (g_ald 0 14)) := snd_aload_n dX3_minutesTo_13 rfl
theorem s34_14 {l : Launch} {G : KG} : kOpOK l G 34 14 (.inl (g_gfr 3 0 17)) := snd_gfr (c := 3) (j := 0) (N := 6) dX3_minutesTo_14 rfl hin3 (by decide) rfl (by decide) rfl wF_3_10
theorem s34_17 {l : Launch} {G : KG} : kOpOK l G 34 17 (.inl (g_gfi 1 10 20)) := snd_gfi (c := 1) (j := 10) (N := 14) dX3_minutesTo_17 rfl hin1 (by decide) rfl (by decide) rfl wF_3_114
theorem s34_20 {l : Launch} {G : KG} : kOpOK l G 34 20 (.inl (g_br1 (fun x => decide (¬ x = 0)) 26 23)) := snd_if_ne dX3_minutesTo_20 (by decide)
theorem s34_23 {l : Launch} {G : KG} : kOpOK l G 34 23 (.inl (g_push (-2) 25)) := snd_bipush dX3_minutesTo_23 rfl
theorem s34_25 {l : Launch} {G : KG} : kOpOK l G 34 25 (.inr (.inr 1)) := ⟨rfl, Or.inr (Or.inl ⟨rfl, dX3_minutesTo_25, rfl⟩)⟩
theorem s34_26 {l : Launch} {G : KG} : kOpOK l G 34 26 (.inl (g_ald 0 27)) := snd_aload_n dX3_minutesTo_26 rfl
theorem s34_27 {l : Launch} {G : KG} : kOpOK l G 34 27 (.inl (g_gfr 3 1 30)) := snd_gfr (c := 3) (j := 1) (N := 6) dX3_minutesTo_27 rfl hin3 (by decide) rfl (by decide) rfl wF_3_16
theorem s34_30 {l : Launch} {G : KG} : kOpOK l G 34 30 (.inl (g_ald 0 31)) := snd_aload_n dX3_minutesTo_30 rfl
theorem s34_31 {l : Launch} {G : KG} : kOpOK l G 34 31 (.inl (g_gfr 3 0 34)) := snd_gfr (c := 3) (j := 0) (N := 6) dX3_minutesTo_31 rfl hin3 (by decide) rfl (by decide) rfl wF_3_10
theorem s34_34 {l : Launch} {G : KG} : kOpOK l G 34 34 (.inr (.inl (0, 2, 37))) := ⟨snd_callV (c := 1) dX3_minutesTo_34 rfl mok_0 rfl rfl rfl rfl (by decide) rfl wM_3_181 wN_X1_copyFrom wL_X1_copyFrom wI_1 (by decide) ⟨rfl, rfl⟩, rfl, mok_0, by decide⟩
theorem s34_37 {l : Launch} {G : KG} : kOpOK l G 34 37 (.inl (g_push 1 38)) := snd_iconst dX3_minutesTo_37 rfl
theorem s34_38 {l : Launch} {G : KG} : kOpOK l G 34 38 (.inl (g_ist 2 39)) := snd_istore_n dX3_minutesTo_38 rfl
theorem s34_39 {l : Launch} {G : KG} : kOpOK l G 34 39 (.inl (g_ild 2 40)) := snd_iload_n dX3_minutesTo_39 rfl
theorem s34_40 {l : Launch} {G : KG} : kOpOK l G 34 40 (.inl (g_push 500 43)) := snd_sipush dX3_minutesTo_40 rfl
theorem s34_43 {l : Launch} {G : KG} : kOpOK l G 34 43 (.inl (g_br2 (fun x y => decide (y < x)) 65 46)) := snd_icmp_gt dX3_minutesTo_43 (by decide)
theorem s34_46 {l : Launch} {G : KG} : kOpOK l G 34 46 (.inl (g_ald 0 47)) := snd_aload_n dX3_minutesTo_46 rfl
theorem s34_47 {l : Launch} {G : KG} : kOpOK l G 34 47 (.inl (g_gfr 3 1 50)) := snd_gfr (c := 3) (j := 1) (N := 6) dX3_minutesTo_47 rfl hin3 (by decide) rfl (by decide) rfl wF_3_16
theorem s34_50 {l : Launch} {G : KG} : kOpOK l G 34 50 (.inr (.inl (9, 1, 53))) := ⟨snd_callV (c := 1) dX3_minutesTo_50 rfl mok_9 rfl rfl rfl rfl (by decide) rfl wM_3_154 wN_X1_shakeOneMinute wL_X1_shakeOneMinute wI_1 (by decide) ⟨rfl, rfl⟩, rfl, mok_9, by decide⟩
theorem s34_53 {l : Launch} {G : KG} : kOpOK l G 34 53 (.inl (g_ild 1 54)) := snd_iload_n dX3_minutesTo_53 rfl
theorem s34_54 {l : Launch} {G : KG} : kOpOK l G 34 54 (.inl (g_br2 (fun x y => decide (y ≤ x)) 59 57)) := snd_icmp_ge dX3_minutesTo_54 (by decide)
theorem s34_57 {l : Launch} {G : KG} : kOpOK l G 34 57 (.inl (g_ild 2 58)) := snd_iload_n dX3_minutesTo_57 rfl
theorem s34_58 {l : Launch} {G : KG} : kOpOK l G 34 58 (.inr (.inr 1)) := ⟨rfl, Or.inr (Or.inl ⟨rfl, dX3_minutesTo_58, rfl⟩)⟩
theorem s34_59 {l : Launch} {G : KG} : kOpOK l G 34 59 (.inl (g_iinc 2 1 62)) := snd_iinc dX3_minutesTo_59 rfl
theorem s34_62 {l : Launch} {G : KG} : kOpOK l G 34 62 (.inl (g_goto 39)) := snd_goto dX3_minutesTo_62 (by decide)
theorem s34_65 {l : Launch} {G : KG} : kOpOK l G 34 65 (.inl (g_push (-9) 67)) := snd_bipush dX3_minutesTo_65 rfl
theorem s34_67 {l : Launch} {G : KG} : kOpOK l G 34 67 (.inr (.inr 1)) := ⟨rfl, Or.inr (Or.inl ⟨rfl, dX3_minutesTo_67, rfl⟩)⟩
theorem s35_0 {l : Launch} {G : KG} : kOpOK l G 35 0 (.inl (g_ald 0 1)) := snd_aload_n dX3_undo_0 rfl
theorem s35_1 {l : Launch} {G : KG} : kOpOK l G 35 1 (.inl (g_gfi 3 5 4)) := snd_gfi (c := 3) (j := 5) (N := 6) dX3_undo_1 rfl hin3 (by decide) rfl (by decide) rfl wF_3_124
theorem s35_4 {l : Launch} {G : KG} : kOpOK l G 35 4 (.inl (g_br1 (fun x => decide (¬ x = 0)) 10 7)) := snd_if_ne dX3_undo_4 (by decide)
theorem s35_7 {l : Launch} {G : KG} : kOpOK l G 35 7 (.inl (g_push (-2) 9)) := snd_bipush dX3_undo_7 rfl
theorem s35_9 {l : Launch} {G : KG} : kOpOK l G 35 9 (.inr (.inr 1)) := ⟨rfl, Or.inr (Or.inl ⟨rfl, dX3_undo_9, rfl⟩)⟩
theorem s35_10 {l : Launch} {G : KG} : kOpOK l G 35 10 (.inl (g_ald 0 11)) := snd_aload_n dX3_undo_10 rfl
theorem s35_11 {l : Launch} {G : KG} : kOpOK l G 35 11 (.inl (g_ald 0 12)) := snd_aload_n dX3_undo_11 rfl
theorem s35_12 {l : Launch} {G : KG} : kOpOK l G 35 12 (.inl (g_gfi 3 4 15)) := snd_gfi (c := 3) (j := 4) (N := 6) dX3_undo_12 rfl hin3 (by decide) rfl (by decide) rfl wF_3_185
theorem s35_15 {l : Launch} {G : KG} : kOpOK l G 35 15 (.inl (g_br1 (fun x => decide (¬ x = 0)) 22 18)) := snd_if_ne dX3_undo_15 (by decide)
theorem s35_18 {l : Launch} {G : KG} : kOpOK l G 35 18 (.inl (g_push 5 19)) := snd_iconst dX3_undo_18 rfl
theorem s35_19 {l : Launch} {G : KG} : kOpOK l G 35 19 (.inl (g_goto 28)) := snd_goto dX3_undo_19 (by decide)
theorem s35_22 {l : Launch} {G : KG} : kOpOK l G 35 22 (.inl (g_ald 0 23)) := snd_aload_n dX3_undo_22 rfl
theorem s35_23 {l : Launch} {G : KG} : kOpOK l G 35 23 (.inl (g_gfi 3 4 26)) := snd_gfi (c := 3) (j := 4) (N := 6) dX3_undo_23 rfl hin3 (by decide) rfl (by decide) rfl wF_3_185
theorem s35_26 {l : Launch} {G : KG} : kOpOK l G 35 26 (.inl (g_push 1 27)) := snd_iconst dX3_undo_26 rfl
theorem s35_27 {l : Launch} {G : KG} : kOpOK l G 35 27 (.inl (g_iop (fun x y => x - y) 28)) := snd_isub dX3_undo_27
theorem s35_28 {l : Launch} {G : KG} : kOpOK l G 35 28 (.inl (g_pfi 3 4 31)) := snd_pfi (c := 3) (j := 4) (N := 6) dX3_undo_28 rfl hin3 (by decide) rfl (by decide) rfl wF_3_185 tyX3 tyX3_ok nmX3 rfl (by decide +kernel)
theorem s35_31 {l : Launch} {G : KG} : kOpOK l G 35 31 (.inl (g_ald 0 32)) := snd_aload_n dX3_undo_31 rfl
theorem s35_32 {l : Launch} {G : KG} : kOpOK l G 35 32 (.inl (g_gfr 3 0 35)) := snd_gfr (c := 3) (j := 0) (N := 6) dX3_undo_32 rfl hin3 (by decide) rfl (by decide) rfl wF_3_10
theorem s35_35 {l : Launch} {G : KG} : kOpOK l G 35 35 (.inl (g_ald 0 36)) := snd_aload_n dX3_undo_35 rfl
theorem s35_36 {l : Launch} {G : KG} : kOpOK l G 35 36 (.inl (g_gfr 3 2 39)) := snd_gfr (c := 3) (j := 2) (N := 6) dX3_undo_36 rfl hin3 (by decide) rfl (by decide) rfl wF_3_19
theorem s35_39 {l : Launch} {G : KG} : kOpOK l G 35 39 (.inl (g_ald 0 40)) := snd_aload_n dX3_undo_39 rfl
theorem s35_40 {l : Launch} {G : KG} : kOpOK l G 35 40 (.inl (g_gfi 3 4 43)) := snd_gfi (c := 3) (j := 4) (N := 6) dX3_undo_40 rfl hin3 (by decide) rfl (by decide) rfl wF_3_185
theorem s35_43 {l : Launch} {G : KG} : kOpOK l G 35 43 (.inl (g_aald 10 44)) := snd_aald10 dX3_undo_43
theorem s35_44 {l : Launch} {G : KG} : kOpOK l G 35 44 (.inr (.inl (0, 2, 47))) := ⟨snd_callV (c := 1) dX3_undo_44 rfl mok_0 rfl rfl rfl rfl (by decide) rfl wM_3_181 wN_X1_copyFrom wL_X1_copyFrom wI_1 (by decide) ⟨rfl, rfl⟩, rfl, mok_0, by decide⟩
theorem s35_47 {l : Launch} {G : KG} : kOpOK l G 35 47 (.inl (g_ald 0 48)) := snd_aload_n dX3_undo_47 rfl
theorem s35_48 {l : Launch} {G : KG} : kOpOK l G 35 48 (.inl (g_dup 49)) := snd_dup dX3_undo_48
theorem s35_49 {l : Launch} {G : KG} : kOpOK l G 35 49 (.inl (g_gfi 3 5 52)) := snd_gfi (c := 3) (j := 5) (N := 6) dX3_undo_49 rfl hin3 (by decide) rfl (by decide) rfl wF_3_124
theorem s35_52 {l : Launch} {G : KG} : kOpOK l G 35 52 (.inl (g_push 1 53)) := snd_iconst dX3_undo_52 rfl
theorem s35_53 {l : Launch} {G : KG} : kOpOK l G 35 53 (.inl (g_iop (fun x y => x - y) 54)) := snd_isub dX3_undo_53
theorem s35_54 {l : Launch} {G : KG} : kOpOK l G 35 54 (.inl (g_pfi 3 5 57)) := snd_pfi (c := 3) (j := 5) (N := 6) dX3_undo_54 rfl hin3 (by decide) rfl (by decide) rfl wF_3_124 tyX3 tyX3_ok nmX3 rfl (by decide +kernel)
theorem s35_57 {l : Launch} {G : KG} : kOpOK l G 35 57 (.inl (g_ald 0 58)) := snd_aload_n dX3_undo_57 rfl
theorem s35_58 {l : Launch} {G : KG} : kOpOK l G 35 58 (.inl (g_gfi 3 5 61)) := snd_gfi (c := 3) (j := 5) (N := 6) dX3_undo_58 rfl hin3 (by decide) rfl (by decide) rfl wF_3_124
theorem s35_61 {l : Launch} {G : KG} : kOpOK l G 35 61 (.inr (.inr 1)) := ⟨rfl, Or.inr (Or.inl ⟨rfl, dX3_undo_61, rfl⟩)⟩
theorem s36_0 {l : Launch} {G : KG} : kOpOK l G 36 0 (.inl (g_ald 0 1)) := snd_aload_n dX3_saveState_0 rfl
theorem s36_1 {l : Launch} {G : KG} : kOpOK l G 36 1 (.inl (g_gfr 3 2 4)) := snd_gfr (c := 3) (j := 2) (N := 6) dX3_saveState_1 rfl hin3 (by decide) rfl (by decide) rfl wF_3_19
theorem s36_4 {l : Launch} {G : KG} : kOpOK l G 36 4 (.inl (g_ald 0 5)) := snd_aload_n dX3_saveState_4 rfl
theorem s36_5 {l : Launch} {G : KG} : kOpOK l G 36 5 (.inl (g_gfi 3 4 8)) := snd_gfi (c := 3) (j := 4) (N := 6) dX3_saveState_5 rfl hin3 (by decide) rfl (by decide) rfl wF_3_185
theorem s36_8 {l : Launch} {G : KG} : kOpOK l G 36 8 (.inl (g_aald 10 9)) := snd_aald10 dX3_saveState_8
theorem s36_9 {l : Launch} {G : KG} : kOpOK l G 36 9 (.inl (g_ald 0 10)) := snd_aload_n dX3_saveState_9 rfl
theorem s36_10 {l : Launch} {G : KG} : kOpOK l G 36 10 (.inl (g_gfr 3 0 13)) := snd_gfr (c := 3) (j := 0) (N := 6) dX3_saveState_10 rfl hin3 (by decide) rfl (by decide) rfl wF_3_10
theorem s36_13 {l : Launch} {G : KG} : kOpOK l G 36 13 (.inr (.inl (0, 2, 16))) := ⟨snd_callV (c := 1) dX3_saveState_13 rfl mok_0 rfl rfl rfl rfl (by decide) rfl wM_3_181 wN_X1_copyFrom wL_X1_copyFrom wI_1 (by decide) ⟨rfl, rfl⟩, rfl, mok_0, by decide⟩
theorem s36_16 {l : Launch} {G : KG} : kOpOK l G 36 16 (.inl (g_ald 0 17)) := snd_aload_n dX3_saveState_16 rfl
theorem s36_17 {l : Launch} {G : KG} : kOpOK l G 36 17 (.inl (g_ald 0 18)) := snd_aload_n dX3_saveState_17 rfl
theorem s36_18 {l : Launch} {G : KG} : kOpOK l G 36 18 (.inl (g_gfi 3 4 21)) := snd_gfi (c := 3) (j := 4) (N := 6) dX3_saveState_18 rfl hin3 (by decide) rfl (by decide) rfl wF_3_185
theorem s36_21 {l : Launch} {G : KG} : kOpOK l G 36 21 (.inl (g_push 5 22)) := snd_iconst dX3_saveState_21 rfl
theorem s36_22 {l : Launch} {G : KG} : kOpOK l G 36 22 (.inl (g_br2 (fun x y => decide (¬ x = y)) 29 25)) := snd_icmp_ne dX3_saveState_22 (by decide)
theorem s36_25 {l : Launch} {G : KG} : kOpOK l G 36 25 (.inl (g_push 0 26)) := snd_iconst dX3_saveState_25 rfl
theorem s36_26 {l : Launch} {G : KG} : kOpOK l G 36 26 (.inl (g_goto 35)) := snd_goto dX3_saveState_26 (by decide)
theorem s36_29 {l : Launch} {G : KG} : kOpOK l G 36 29 (.inl (g_ald 0 30)) := snd_aload_n dX3_saveState_29 rfl
theorem s36_30 {l : Launch} {G : KG} : kOpOK l G 36 30 (.inl (g_gfi 3 4 33)) := snd_gfi (c := 3) (j := 4) (N := 6) dX3_saveState_30 rfl hin3 (by decide) rfl (by decide) rfl wF_3_185
theorem s36_33 {l : Launch} {G : KG} : kOpOK l G 36 33 (.inl (g_push 1 34)) := snd_iconst dX3_saveState_33 rfl
theorem s36_34 {l : Launch} {G : KG} : kOpOK l G 36 34 (.inl (g_iop (fun x y => x + y) 35)) := snd_iadd dX3_saveState_34
theorem s36_35 {l : Launch} {G : KG} : kOpOK l G 36 35 (.inl (g_pfi 3 4 38)) := snd_pfi (c := 3) (j := 4) (N := 6) dX3_saveState_35 rfl hin3 (by decide) rfl (by decide) rfl wF_3_185 tyX3 tyX3_ok nmX3 rfl (by decide +kernel)
theorem s36_38 {l : Launch} {G : KG} : kOpOK l G 36 38 (.inl (g_ald 0 39)) := snd_aload_n dX3_saveState_38 rfl
theorem s36_39 {l : Launch} {G : KG} : kOpOK l G 36 39 (.inl (g_gfi 3 5 42)) := snd_gfi (c := 3) (j := 5) (N := 6) dX3_saveState_39 rfl hin3 (by decide) rfl (by decide) rfl wF_3_124
theorem s36_42 {l : Launch} {G : KG} : kOpOK l G 36 42 (.inl (g_push 6 44)) := snd_bipush dX3_saveState_42 rfl
theorem s36_44 {l : Launch} {G : KG} : kOpOK l G 36 44 (.inl (g_br2 (fun x y => decide (y ≤ x)) 57 47)) := snd_icmp_ge dX3_saveState_44 (by decide)
theorem s36_47 {l : Launch} {G : KG} : kOpOK l G 36 47 (.inl (g_ald 0 48)) := snd_aload_n dX3_saveState_47 rfl
theorem s36_48 {l : Launch} {G : KG} : kOpOK l G 36 48 (.inl (g_dup 49)) := snd_dup dX3_saveState_48
theorem s36_49 {l : Launch} {G : KG} : kOpOK l G 36 49 (.inl (g_gfi 3 5 52)) := snd_gfi (c := 3) (j := 5) (N := 6) dX3_saveState_49 rfl hin3 (by decide) rfl (by decide) rfl wF_3_124
theorem s36_52 {l : Launch} {G : KG} : kOpOK l G 36 52 (.inl (g_push 1 53)) := snd_iconst dX3_saveState_52 rfl
theorem s36_53 {l : Launch} {G : KG} : kOpOK l G 36 53 (.inl (g_iop (fun x y => x + y) 54)) := snd_iadd dX3_saveState_53
theorem s36_54 {l : Launch} {G : KG} : kOpOK l G 36 54 (.inl (g_pfi 3 5 57)) := snd_pfi (c := 3) (j := 5) (N := 6) dX3_saveState_54 rfl hin3 (by decide) rfl (by decide) rfl wF_3_124 tyX3 tyX3_ok nmX3 rfl (by decide +kernel)
theorem s36_57 {l : Launch} {G : KG} : kOpOK l G 36 57 (.inr (.inr 0)) := ⟨rfl, Or.inl ⟨rfl, dX3_saveState_57, rfl⟩⟩
theorem s37_0 {l : Launch} {G : KG} : kOpOK l G 37 0 (.inl (g_ild 0 1)) := snd_iload_n dX3_isIn_0 rfl
theorem s37_1 {l : Launch} {G : KG} : kOpOK l G 37 1 (.inl (g_ild 1 2)) := snd_iload_n dX3_isIn_1 rfl
theorem s37_2 {l : Launch} {G : KG} : kOpOK l G 37 2 (.inl (g_br2 (fun x y => decide (x < y)) 14 5)) := snd_icmp_lt dX3_isIn_2 (by decide)
theorem s37_5 {l : Launch} {G : KG} : kOpOK l G 37 5 (.inl (g_ild 0 6)) := snd_iload_n dX3_isIn_5 rfl
theorem s37_6 {l : Launch} {G : KG} : kOpOK l G 37 6 (.inl (g_ild 2 7)) := snd_iload_n dX3_isIn_6 rfl
theorem s37_7 {l : Launch} {G : KG} : kOpOK l G 37 7 (.inl (g_br2 (fun x y => decide (y < x)) 14 10)) := snd_icmp_gt dX3_isIn_7 (by decide)
theorem s37_10 {l : Launch} {G : KG} : kOpOK l G 37 10 (.inl (g_push 1 11)) := snd_iconst dX3_isIn_10 rfl
theorem s37_11 {l : Launch} {G : KG} : kOpOK l G 37 11 (.inl (g_goto 15)) := snd_goto dX3_isIn_11 (by decide)
theorem s37_14 {l : Launch} {G : KG} : kOpOK l G 37 14 (.inl (g_push 0 15)) := snd_iconst dX3_isIn_14 rfl
theorem s37_15 {l : Launch} {G : KG} : kOpOK l G 37 15 (.inr (.inr 2)) := ⟨rfl, Or.inr (Or.inr (Or.inl ⟨rfl, dX3_isIn_15, rfl⟩))⟩
theorem s38_0 {l : Launch} {G : KG} : kOpOK l G 38 0 (.inl (g_ild 0 1)) := snd_iload_n dX3_isClass_0 rfl
theorem s38_1 {l : Launch} {G : KG} : kOpOK l G 38 1 (.inl (g_push 0 2)) := snd_iconst dX3_isClass_1 rfl
theorem s38_2 {l : Launch} {G : KG} : kOpOK l G 38 2 (.inl (g_push 9 4)) := snd_bipush dX3_isClass_2 rfl
theorem s38_4 {l : Launch} {G : KG} : kOpOK l G 38 4 (.inr (.inl (37, 3, 7))) := ⟨snd_callS dX3_isClass_4 rfl mok_37 rfl rfl rfl wM_3_34 wS_X3_isIn wI_3 (by decide) ⟨rfl, rfl⟩, rfl, mok_37, by decide⟩
theorem s38_7 {l : Launch} {G : KG} : kOpOK l G 38 7 (.inr (.inr 2)) := ⟨rfl, Or.inr (Or.inr (Or.inl ⟨rfl, dX3_isClass_7, rfl⟩))⟩
theorem s39_0 {l : Launch} {G : KG} : kOpOK l G 39 0 (.inl (g_ild 1 1)) := snd_iload_n dX3_massIn_0 rfl
theorem s39_1 {l : Launch} {G : KG} : kOpOK l G 39 1 (.inl (g_push (-1) 2)) := snd_iconst dX3_massIn_1 rfl
theorem s39_2 {l : Launch} {G : KG} : kOpOK l G 39 2 (.inl (g_br2 (fun x y => decide (¬ x = y)) 10 5)) := snd_icmp_ne dX3_massIn_2 (by decide)
theorem s39_5 {l : Launch} {G : KG} : kOpOK l G 39 5 (.inl (g_ald 0 6)) := snd_aload_n dX3_massIn_5 rfl
theorem s39_6 {l : Launch} {G : KG} : kOpOK l G 39 6 (.inr (.inl (40, 1, 9))) := ⟨snd_callS dX3_massIn_6 rfl mok_40 rfl rfl rfl wM_3_52 wS_X3_sumOf wI_3 (by decide) ⟨rfl, rfl⟩, rfl, mok_40, by decide⟩
theorem s39_9 {l : Launch} {G : KG} : kOpOK l G 39 9 (.inr (.inr 1)) := ⟨rfl, Or.inr (Or.inl ⟨rfl, dX3_massIn_9, rfl⟩)⟩
theorem s39_10 {l : Launch} {G : KG} : kOpOK l G 39 10 (.inl (g_ild 1 11)) := snd_iload_n dX3_massIn_10 rfl
theorem s39_11 {l : Launch} {G : KG} : kOpOK l G 39 11 (.inr (.inl (38, 1, 14))) := ⟨snd_callS dX3_massIn_11 rfl mok_38 rfl rfl rfl wM_3_30 wS_X3_isClass wI_3 (by decide) ⟨rfl, rfl⟩, rfl, mok_38, by decide⟩
theorem s39_14 {l : Launch} {G : KG} : kOpOK l G 39 14 (.inl (g_br1 (fun x => decide (x = 0)) 23 17)) := snd_if_eq dX3_massIn_14 (by decide)
theorem s39_17 {l : Launch} {G : KG} : kOpOK l G 39 17 (.inl (g_ald 0 18)) := snd_aload_n dX3_massIn_17 rfl
theorem s39_18 {l : Launch} {G : KG} : kOpOK l G 39 18 (.inl (g_ild 1 19)) := snd_iload_n dX3_massIn_18 rfl
theorem s39_19 {l : Launch} {G : KG} : kOpOK l G 39 19 (.inl (g_pald 5 20)) := snd_pald5 dX3_massIn_19
theorem s39_20 {l : Launch} {G : KG} : kOpOK l G 39 20 (.inl (g_goto 24)) := snd_goto dX3_massIn_20 (by decide)
theorem s39_23 {l : Launch} {G : KG} : kOpOK l G 39 23 (.inl (g_push (-1) 24)) := snd_iconst dX3_massIn_23 rfl
theorem s39_24 {l : Launch} {G : KG} : kOpOK l G 39 24 (.inr (.inr 1)) := ⟨rfl, Or.inr (Or.inl ⟨rfl, dX3_massIn_24, rfl⟩)⟩
theorem s40_0 {l : Launch} {G : KG} : kOpOK l G 40 0 (.inl (g_push 0 1)) := snd_iconst dX3_sumOf_0 rfl
theorem s40_1 {l : Launch} {G : KG} : kOpOK l G 40 1 (.inl (g_ist 1 2)) := snd_istore_n dX3_sumOf_1 rfl
theorem s40_2 {l : Launch} {G : KG} : kOpOK l G 40 2 (.inl (g_ald 0 3)) := snd_aload_n dX3_sumOf_2 rfl
theorem s40_3 {l : Launch} {G : KG} : kOpOK l G 40 3 (.inl (g_ast 2 4)) := snd_astore_n dX3_sumOf_3 rfl
theorem s40_4 {l : Launch} {G : KG} : kOpOK l G 40 4 (.inl (g_ald 2 5)) := snd_aload_n dX3_sumOf_4 rfl
theorem s40_5 {l : Launch} {G : KG} : kOpOK l G 40 5 (.inl (g_alen 6)) := snd_alen dX3_sumOf_5
theorem s40_6 {l : Launch} {G : KG} : kOpOK l G 40 6 (.inl (g_ist 3 7)) := snd_istore_n dX3_sumOf_6 rfl
theorem s40_7 {l : Launch} {G : KG} : kOpOK l G 40 7 (.inl (g_push 0 8)) := snd_iconst dX3_sumOf_7 rfl
theorem s40_8 {l : Launch} {G : KG} : kOpOK l G 40 8 (.inl (g_ist 4 10)) := snd_istore dX3_sumOf_8
theorem s40_10 {l : Launch} {G : KG} : kOpOK l G 40 10 (.inl (g_ild 4 12)) := snd_iload dX3_sumOf_10
theorem s40_12 {l : Launch} {G : KG} : kOpOK l G 40 12 (.inl (g_ild 3 13)) := snd_iload_n dX3_sumOf_12 rfl
theorem s40_13 {l : Launch} {G : KG} : kOpOK l G 40 13 (.inl (g_br2 (fun x y => decide (y ≤ x)) 33 16)) := snd_icmp_ge dX3_sumOf_13 (by decide)
theorem s40_16 {l : Launch} {G : KG} : kOpOK l G 40 16 (.inl (g_ald 2 17)) := snd_aload_n dX3_sumOf_16 rfl
theorem s40_17 {l : Launch} {G : KG} : kOpOK l G 40 17 (.inl (g_ild 4 19)) := snd_iload dX3_sumOf_17
theorem s40_19 {l : Launch} {G : KG} : kOpOK l G 40 19 (.inl (g_pald 5 20)) := snd_pald5 dX3_sumOf_19
theorem s40_20 {l : Launch} {G : KG} : kOpOK l G 40 20 (.inl (g_ist 5 22)) := snd_istore dX3_sumOf_20
theorem s40_22 {l : Launch} {G : KG} : kOpOK l G 40 22 (.inl (g_ild 1 23)) := snd_iload_n dX3_sumOf_22 rfl
theorem s40_23 {l : Launch} {G : KG} : kOpOK l G 40 23 (.inl (g_ild 5 25)) := snd_iload dX3_sumOf_23
theorem s40_25 {l : Launch} {G : KG} : kOpOK l G 40 25 (.inl (g_iop (fun x y => x + y) 26)) := snd_iadd dX3_sumOf_25
theorem s40_26 {l : Launch} {G : KG} : kOpOK l G 40 26 (.inl (g_ist 1 27)) := snd_istore_n dX3_sumOf_26 rfl
theorem s40_27 {l : Launch} {G : KG} : kOpOK l G 40 27 (.inl (g_iinc 4 1 30)) := snd_iinc dX3_sumOf_27 rfl
theorem s40_30 {l : Launch} {G : KG} : kOpOK l G 40 30 (.inl (g_goto 10)) := snd_goto dX3_sumOf_30 (by decide)
theorem s40_33 {l : Launch} {G : KG} : kOpOK l G 40 33 (.inl (g_ild 1 34)) := snd_iload_n dX3_sumOf_33 rfl
theorem s40_34 {l : Launch} {G : KG} : kOpOK l G 40 34 (.inr (.inr 1)) := ⟨rfl, Or.inr (Or.inl ⟨rfl, dX3_sumOf_34, rfl⟩)⟩
theorem s41_0 {l : Launch} {G : KG} : kOpOK l G 41 0 (.inl (g_push 0 1)) := snd_iconst dX3_clearRow_0 rfl
theorem s41_1 {l : Launch} {G : KG} : kOpOK l G 41 1 (.inl (g_ist 1 2)) := snd_istore_n dX3_clearRow_1 rfl
theorem s41_2 {l : Launch} {G : KG} : kOpOK l G 41 2 (.inl (g_ild 1 3)) := snd_iload_n dX3_clearRow_2 rfl
theorem s41_3 {l : Launch} {G : KG} : kOpOK l G 41 3 (.inl (g_ald 0 4)) := snd_aload_n dX3_clearRow_3 rfl
theorem s41_4 {l : Launch} {G : KG} : kOpOK l G 41 4 (.inl (g_alen 5)) := snd_alen dX3_clearRow_4
theorem s41_5 {l : Launch} {G : KG} : kOpOK l G 41 5 (.inl (g_br2 (fun x y => decide (y ≤ x)) 18 8)) := snd_icmp_ge dX3_clearRow_5 (by decide)
theorem s41_8 {l : Launch} {G : KG} : kOpOK l G 41 8 (.inl (g_ald 0 9)) := snd_aload_n dX3_clearRow_8 rfl
theorem s41_9 {l : Launch} {G : KG} : kOpOK l G 41 9 (.inl (g_ild 1 10)) := snd_iload_n dX3_clearRow_9 rfl
theorem s41_10 {l : Launch} {G : KG} : kOpOK l G 41 10 (.inl (g_push 0 11)) := snd_iconst dX3_clearRow_10 rfl
theorem s41_11 {l : Launch} {G : KG} : kOpOK l G 41 11 (.inl (g_past 5 12)) := snd_past5 dX3_clearRow_11
theorem s41_12 {l : Launch} {G : KG} : kOpOK l G 41 12 (.inl (g_iinc 1 1 15)) := snd_iinc dX3_clearRow_12 rfl
theorem s41_15 {l : Launch} {G : KG} : kOpOK l G 41 15 (.inl (g_goto 2)) := snd_goto dX3_clearRow_15 (by decide)
theorem s41_18 {l : Launch} {G : KG} : kOpOK l G 41 18 (.inr (.inr 0)) := ⟨rfl, Or.inl ⟨rfl, dX3_clearRow_18, rfl⟩⟩
theorem s42_0 {l : Launch} {G : KG} : kOpOK l G 42 0 (.inl (g_ald 0 1)) := snd_aload_n dX3_copyRow_0 rfl
theorem s42_1 {l : Launch} {G : KG} : kOpOK l G 42 1 (.inl (g_push 0 2)) := snd_iconst dX3_copyRow_1 rfl
theorem s42_2 {l : Launch} {G : KG} : kOpOK l G 42 2 (.inl (g_ald 1 3)) := snd_aload_n dX3_copyRow_2 rfl
theorem s42_3 {l : Launch} {G : KG} : kOpOK l G 42 3 (.inl (g_push 0 4)) := snd_iconst dX3_copyRow_3 rfl
theorem s42_4 {l : Launch} {G : KG} : kOpOK l G 42 4 (.inl (g_ald 0 5)) := snd_aload_n dX3_copyRow_4 rfl
theorem s42_5 {l : Launch} {G : KG} : kOpOK l G 42 5 (.inl (g_alen 6)) := snd_alen dX3_copyRow_5
theorem s42_6 {l : Launch} {G : KG} : kOpOK l G 42 6 (.inl (g_ald 1 7)) := snd_aload_n dX3_copyRow_6 rfl
theorem s42_7 {l : Launch} {G : KG} : kOpOK l G 42 7 (.inl (g_alen 8)) := snd_alen dX3_copyRow_7
theorem s42_8 {l : Launch} {G : KG} : kOpOK l G 42 8 (.inl (g_imin 11)) := snd_imin dX3_copyRow_8 wM_3_188 wS_snd_imin wI_math wC_snd_imin (by decide) (by decide)
theorem s42_11 {l : Launch} {G : KG} : kOpOK l G 42 11 (.inl (g_acp 14)) := snd_acp dX3_copyRow_11 wM_3_193 wV_acp wS_acp wI_sys (by decide) (by decide)
theorem s42_14 {l : Launch} {G : KG} : kOpOK l G 42 14 (.inr (.inr 0)) := ⟨rfl, Or.inl ⟨rfl, dX3_copyRow_14, rfl⟩⟩
theorem s43_0 {l : Launch} {G : KG} : kOpOK l G 43 0 (.inl (g_ild 1 1)) := snd_iload_n dX3_perThousand_0 rfl
theorem s43_1 {l : Launch} {G : KG} : kOpOK l G 43 1 (.inl (g_br1 (fun x => decide (x ≤ 0)) 14 4)) := snd_if_le dX3_perThousand_1 (by decide)
theorem s43_4 {l : Launch} {G : KG} : kOpOK l G 43 4 (.inl (g_ild 0 5)) := snd_iload_n dX3_perThousand_4 rfl
theorem s43_5 {l : Launch} {G : KG} : kOpOK l G 43 5 (.inl (g_push 1000 8)) := snd_sipush dX3_perThousand_5 rfl
theorem s43_8 {l : Launch} {G : KG} : kOpOK l G 43 8 (.inl (g_iop (fun x y => x * y) 9)) := snd_imul dX3_perThousand_8
theorem s43_9 {l : Launch} {G : KG} : kOpOK l G 43 9 (.inl (g_ild 1 10)) := snd_iload_n dX3_perThousand_9 rfl
theorem s43_10 {l : Launch} {G : KG} : kOpOK l G 43 10 (.inl (g_idiv (fun x y => x / y) 11)) := snd_idiv dX3_perThousand_10
theorem s43_11 {l : Launch} {G : KG} : kOpOK l G 43 11 (.inl (g_goto 15)) := snd_goto dX3_perThousand_11 (by decide)
theorem s43_14 {l : Launch} {G : KG} : kOpOK l G 43 14 (.inl (g_push 0 15)) := snd_iconst dX3_perThousand_14 rfl
theorem s43_15 {l : Launch} {G : KG} : kOpOK l G 43 15 (.inr (.inr 1)) := ⟨rfl, Or.inr (Or.inl ⟨rfl, dX3_perThousand_15, rfl⟩)⟩
theorem s44_0 {l : Launch} {G : KG} : kOpOK l G 44 0 (.inl (g_ild 0 1)) := snd_iload_n dL_low_0 rfl
theorem s44_1 {l : Launch} {G : KG} : kOpOK l G 44 1 (.inl (g_push 2147483647 3)) := snd_ldc dL_low_1 wK_5_7
theorem s44_3 {l : Launch} {G : KG} : kOpOK l G 44 3 (.inl (g_iop (fun x y => x &&& y) 4)) := snd_iand dL_low_3
theorem s44_4 {l : Launch} {G : KG} : kOpOK l G 44 4 (.inl (g_ild 1 5)) := snd_iload_n dL_low_4 rfl
theorem s44_5 {l : Launch} {G : KG} : kOpOK l G 44 5 (.inl (g_idiv k_irem 6)) := snd_irem dL_low_5
theorem s44_6 {l : Launch} {G : KG} : kOpOK l G 44 6 (.inr (.inr 1)) := ⟨rfl, Or.inr (Or.inl ⟨rfl, dL_low_6, rfl⟩)⟩
theorem s45_0 {l : Launch} {G : KG} : kOpOK l G 45 0 (.inl (g_pushl 3 3)) := snd_ldc2 dL_tale_0 wK_5_8
theorem s45_3 {l : Launch} {G : KG} : kOpOK l G 45 3 (.inl (g_lst 1 4)) := snd_lstore_n dL_tale_3 rfl
theorem s45_4 {l : Launch} {G : KG} : kOpOK l G 45 4 (.inl (g_push 0 5)) := snd_iconst dL_tale_4 rfl
theorem s45_5 {l : Launch} {G : KG} : kOpOK l G 45 5 (.inl (g_ist 3 6)) := snd_istore_n dL_tale_5 rfl
theorem s45_6 {l : Launch} {G : KG} : kOpOK l G 45 6 (.inl (g_ild 3 7)) := snd_iload_n dL_tale_6 rfl
theorem s45_7 {l : Launch} {G : KG} : kOpOK l G 45 7 (.inl (g_push 8 9)) := snd_bipush dL_tale_7 rfl
theorem s45_9 {l : Launch} {G : KG} : kOpOK l G 45 9 (.inl (g_br2 (fun x y => decide (y ≤ x)) 31 12)) := snd_icmp_ge dL_tale_9 (by decide)
theorem s45_12 {l : Launch} {G : KG} : kOpOK l G 45 12 (.inl (g_lld 1 13)) := snd_lload_n dL_tale_12 rfl
theorem s45_13 {l : Launch} {G : KG} : kOpOK l G 45 13 (.inl (g_pushl 31 16)) := snd_ldc2 dL_tale_13 wK_5_10
theorem s45_16 {l : Launch} {G : KG} : kOpOK l G 45 16 (.inl (g_lop (fun x y => x * y) 17)) := snd_lmul dL_tale_16
theorem s45_17 {l : Launch} {G : KG} : kOpOK l G 45 17 (.inl (g_ald 0 18)) := snd_aload_n dL_tale_17 rfl
theorem s45_18 {l : Launch} {G : KG} : kOpOK l G 45 18 (.inl (g_ild 3 19)) := snd_iload_n dL_tale_18 rfl
theorem s45_19 {l : Launch} {G : KG} : kOpOK l G 45 19 (.inr (.inl (26, 2, 22))) := ⟨snd_callV (c := 3) dL_tale_19 rfl mok_26 rfl rfl rfl rfl (by decide) rfl wM_5_12 wN_X3_count wL_X3_count wI_3 (by decide) ⟨rfl, rfl⟩, rfl, mok_26, by decide⟩
theorem s45_22 {l : Launch} {G : KG} : kOpOK l G 45 22 (.inl (g_i2l 23)) := snd_i2l dL_tale_22
theorem s45_23 {l : Launch} {G : KG} : kOpOK l G 45 23 (.inl (g_lop (fun x y => x + y) 24)) := snd_ladd dL_tale_23
theorem s45_24 {l : Launch} {G : KG} : kOpOK l G 45 24 (.inl (g_lst 1 25)) := snd_lstore_n dL_tale_24 rfl
theorem s45_25 {l : Launch} {G : KG} : kOpOK l G 45 25 (.inl (g_iinc 3 1 28)) := snd_iinc dL_tale_25 rfl
theorem s45_28 {l : Launch} {G : KG} : kOpOK l G 45 28 (.inl (g_goto 6)) := snd_goto dL_tale_28 (by decide)
theorem s45_31 {l : Launch} {G : KG} : kOpOK l G 45 31 (.inl (g_push 0 32)) := snd_iconst dL_tale_31 rfl
theorem s45_32 {l : Launch} {G : KG} : kOpOK l G 45 32 (.inl (g_ist 3 33)) := snd_istore_n dL_tale_32 rfl
theorem s45_33 {l : Launch} {G : KG} : kOpOK l G 45 33 (.inl (g_ild 3 34)) := snd_iload_n dL_tale_33 rfl
theorem s45_34 {l : Launch} {G : KG} : kOpOK l G 45 34 (.inl (g_push 10 36)) := snd_bipush dL_tale_34 rfl
theorem s45_36 {l : Launch} {G : KG} : kOpOK l G 45 36 (.inl (g_br2 (fun x y => decide (y ≤ x)) 69 39)) := snd_icmp_ge dL_tale_36 (by decide)
theorem s45_39 {l : Launch} {G : KG} : kOpOK l G 45 39 (.inl (g_lld 1 40)) := snd_lload_n dL_tale_39 rfl
theorem s45_40 {l : Launch} {G : KG} : kOpOK l G 45 40 (.inl (g_pushl 37 43)) := snd_ldc2 dL_tale_40 wK_5_18
theorem s45_43 {l : Launch} {G : KG} : kOpOK l G 45 43 (.inl (g_lop (fun x y => x * y) 44)) := snd_lmul dL_tale_43
theorem s45_44 {l : Launch} {G : KG} : kOpOK l G 45 44 (.inl (g_ald 0 45)) := snd_aload_n dL_tale_44 rfl
theorem s45_45 {l : Launch} {G : KG} : kOpOK l G 45 45 (.inl (g_ild 3 46)) := snd_iload_n dL_tale_45 rfl
theorem s45_46 {l : Launch} {G : KG} : kOpOK l G 45 46 (.inr (.inl (19, 2, 49))) := ⟨snd_callV (c := 3) dL_tale_46 rfl mok_19 rfl rfl rfl rfl (by decide) rfl wM_5_20 wN_X3_mass wL_X3_mass wI_3 (by decide) ⟨rfl, rfl⟩, rfl, mok_19, by decide⟩
theorem s45_49 {l : Launch} {G : KG} : kOpOK l G 45 49 (.inl (g_i2l 50)) := snd_i2l dL_tale_49
theorem s45_50 {l : Launch} {G : KG} : kOpOK l G 45 50 (.inl (g_lop (fun x y => x + y) 51)) := snd_ladd dL_tale_50
theorem s45_51 {l : Launch} {G : KG} : kOpOK l G 45 51 (.inl (g_pushl 3 54)) := snd_ldc2 dL_tale_51 wK_5_8
theorem s45_54 {l : Launch} {G : KG} : kOpOK l G 45 54 (.inl (g_ald 0 55)) := snd_aload_n dL_tale_54 rfl
theorem s45_55 {l : Launch} {G : KG} : kOpOK l G 45 55 (.inl (g_ild 3 56)) := snd_iload_n dL_tale_55 rfl
theorem s45_56 {l : Launch} {G : KG} : kOpOK l G 45 56 (.inr (.inl (20, 2, 59))) := ⟨snd_callV (c := 3) dL_tale_56 rfl mok_20 rfl rfl rfl rfl (by decide) rfl wM_5_23 wN_X3_reserve wL_X3_reserve wI_3 (by decide) ⟨rfl, rfl⟩, rfl, mok_20, by decide⟩
theorem s45_59 {l : Launch} {G : KG} : kOpOK l G 45 59 (.inl (g_i2l 60)) := snd_i2l dL_tale_59
theorem s45_60 {l : Launch} {G : KG} : kOpOK l G 45 60 (.inl (g_lop (fun x y => x * y) 61)) := snd_lmul dL_tale_60
theorem s45_61 {l : Launch} {G : KG} : kOpOK l G 45 61 (.inl (g_lop (fun x y => x + y) 62)) := snd_ladd dL_tale_61
theorem s45_62 {l : Launch} {G : KG} : kOpOK l G 45 62 (.inl (g_lst 1 63)) := snd_lstore_n dL_tale_62 rfl
theorem s45_63 {l : Launch} {G : KG} : kOpOK l G 45 63 (.inl (g_iinc 3 1 66)) := snd_iinc dL_tale_63 rfl
theorem s45_66 {l : Launch} {G : KG} : kOpOK l G 45 66 (.inl (g_goto 33)) := snd_goto dL_tale_66 (by decide)
theorem s45_69 {l : Launch} {G : KG} : kOpOK l G 45 69 (.inl (g_push 0 70)) := snd_iconst dL_tale_69 rfl
theorem s45_70 {l : Launch} {G : KG} : kOpOK l G 45 70 (.inl (g_ist 3 71)) := snd_istore_n dL_tale_70 rfl
theorem s45_71 {l : Launch} {G : KG} : kOpOK l G 45 71 (.inl (g_ild 3 72)) := snd_iload_n dL_tale_71 rfl
theorem s45_72 {l : Launch} {G : KG} : kOpOK l G 45 72 (.inl (g_ald 0 73)) := snd_aload_n dL_tale_72 rfl
theorem s45_73 {l : Launch} {G : KG} : kOpOK l G 45 73 (.inl (g_push 0 74)) := snd_iconst dL_tale_73 rfl
theorem s45_74 {l : Launch} {G : KG} : kOpOK l G 45 74 (.inr (.inl (26, 2, 77))) := ⟨snd_callV (c := 3) dL_tale_74 rfl mok_26 rfl rfl rfl rfl (by decide) rfl wM_5_12 wN_X3_count wL_X3_count wI_3 (by decide) ⟨rfl, rfl⟩, rfl, mok_26, by decide⟩
theorem s45_77 {l : Launch} {G : KG} : kOpOK l G 45 77 (.inl (g_br2 (fun x y => decide (y < x)) 147 80)) := snd_icmp_gt dL_tale_77 (by decide)
theorem s45_80 {l : Launch} {G : KG} : kOpOK l G 45 80 (.inl (g_push 0 81)) := snd_iconst dL_tale_80 rfl
theorem s45_81 {l : Launch} {G : KG} : kOpOK l G 45 81 (.inl (g_ist 4 83)) := snd_istore dL_tale_81
theorem s45_83 {l : Launch} {G : KG} : kOpOK l G 45 83 (.inl (g_ild 4 85)) := snd_iload dL_tale_83
theorem s45_85 {l : Launch} {G : KG} : kOpOK l G 45 85 (.inl (g_push 5 86)) := snd_iconst dL_tale_85 rfl
theorem s45_86 {l : Launch} {G : KG} : kOpOK l G 45 86 (.inl (g_br2 (fun x y => decide (y ≤ x)) 110 89)) := snd_icmp_ge dL_tale_86 (by decide)
theorem s45_89 {l : Launch} {G : KG} : kOpOK l G 45 89 (.inl (g_lld 1 90)) := snd_lload_n dL_tale_89 rfl
theorem s45_90 {l : Launch} {G : KG} : kOpOK l G 45 90 (.inl (g_pushl 41 93)) := snd_ldc2 dL_tale_90 wK_5_26
theorem s45_93 {l : Launch} {G : KG} : kOpOK l G 45 93 (.inl (g_lop (fun x y => x * y) 94)) := snd_lmul dL_tale_93
theorem s45_94 {l : Launch} {G : KG} : kOpOK l G 45 94 (.inl (g_ald 0 95)) := snd_aload_n dL_tale_94 rfl
theorem s45_95 {l : Launch} {G : KG} : kOpOK l G 45 95 (.inl (g_ild 3 96)) := snd_iload_n dL_tale_95 rfl
theorem s45_96 {l : Launch} {G : KG} : kOpOK l G 45 96 (.inl (g_ild 4 98)) := snd_iload dL_tale_96
theorem s45_98 {l : Launch} {G : KG} : kOpOK l G 45 98 (.inr (.inl (27, 3, 101))) := ⟨snd_callV (c := 3) dL_tale_98 rfl mok_27 rfl rfl rfl rfl (by decide) rfl wM_5_28 wN_X3_tray wL_X3_tray wI_3 (by decide) ⟨rfl, rfl⟩, rfl, mok_27, by decide⟩
theorem s45_101 {l : Launch} {G : KG} : kOpOK l G 45 101 (.inl (g_i2l 102)) := snd_i2l dL_tale_101
theorem s45_102 {l : Launch} {G : KG} : kOpOK l G 45 102 (.inl (g_lop (fun x y => x + y) 103)) := snd_ladd dL_tale_102
theorem s45_103 {l : Launch} {G : KG} : kOpOK l G 45 103 (.inl (g_lst 1 104)) := snd_lstore_n dL_tale_103 rfl
theorem s45_104 {l : Launch} {G : KG} : kOpOK l G 45 104 (.inl (g_iinc 4 1 107)) := snd_iinc dL_tale_104 rfl
theorem s45_107 {l : Launch} {G : KG} : kOpOK l G 45 107 (.inl (g_goto 83)) := snd_goto dL_tale_107 (by decide)
theorem s45_110 {l : Launch} {G : KG} : kOpOK l G 45 110 (.inl (g_push 0 111)) := snd_iconst dL_tale_110 rfl
theorem s45_111 {l : Launch} {G : KG} : kOpOK l G 45 111 (.inl (g_ist 4 113)) := snd_istore dL_tale_111
theorem s45_113 {l : Launch} {G : KG} : kOpOK l G 45 113 (.inl (g_ild 4 115)) := snd_iload dL_tale_113
theorem s45_115 {l : Launch} {G : KG} : kOpOK l G 45 115 (.inl (g_push 10 117)) := snd_bipush dL_tale_115 rfl
theorem s45_117 {l : Launch} {G : KG} : kOpOK l G 45 117 (.inl (g_br2 (fun x y => decide (y ≤ x)) 141 120)) := snd_icmp_ge dL_tale_117 (by decide)
theorem s45_120 {l : Launch} {G : KG} : kOpOK l G 45 120 (.inl (g_lld 1 121)) := snd_lload_n dL_tale_120 rfl
theorem s45_121 {l : Launch} {G : KG} : kOpOK l G 45 121 (.inl (g_pushl 43 124)) := snd_ldc2 dL_tale_121 wK_5_32
theorem s45_124 {l : Launch} {G : KG} : kOpOK l G 45 124 (.inl (g_lop (fun x y => x * y) 125)) := snd_lmul dL_tale_124
theorem s45_125 {l : Launch} {G : KG} : kOpOK l G 45 125 (.inl (g_ald 0 126)) := snd_aload_n dL_tale_125 rfl
theorem s45_126 {l : Launch} {G : KG} : kOpOK l G 45 126 (.inl (g_ild 3 127)) := snd_iload_n dL_tale_126 rfl
theorem s45_127 {l : Launch} {G : KG} : kOpOK l G 45 127 (.inl (g_ild 4 129)) := snd_iload dL_tale_127
theorem s45_129 {l : Launch} {G : KG} : kOpOK l G 45 129 (.inr (.inl (28, 3, 132))) := ⟨snd_callV (c := 3) dL_tale_129 rfl mok_28 rfl rfl rfl rfl (by decide) rfl wM_5_34 wN_X3_on wL_X3_on wI_3 (by decide) ⟨rfl, rfl⟩, rfl, mok_28, by decide⟩
theorem s45_132 {l : Launch} {G : KG} : kOpOK l G 45 132 (.inl (g_i2l 133)) := snd_i2l dL_tale_132
theorem s45_133 {l : Launch} {G : KG} : kOpOK l G 45 133 (.inl (g_lop (fun x y => x + y) 134)) := snd_ladd dL_tale_133
theorem s45_134 {l : Launch} {G : KG} : kOpOK l G 45 134 (.inl (g_lst 1 135)) := snd_lstore_n dL_tale_134 rfl
theorem s45_135 {l : Launch} {G : KG} : kOpOK l G 45 135 (.inl (g_iinc 4 1 138)) := snd_iinc dL_tale_135 rfl
theorem s45_138 {l : Launch} {G : KG} : kOpOK l G 45 138 (.inl (g_goto 113)) := snd_goto dL_tale_138 (by decide)
theorem s45_141 {l : Launch} {G : KG} : kOpOK l G 45 141 (.inl (g_iinc 3 1 144)) := snd_iinc dL_tale_141 rfl
theorem s45_144 {l : Launch} {G : KG} : kOpOK l G 45 144 (.inl (g_goto 71)) := snd_goto dL_tale_144 (by decide)
