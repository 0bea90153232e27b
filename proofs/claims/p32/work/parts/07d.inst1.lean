theorem s45_147 {l : Launch} {G : KG} : kOpOK l G 45 147 (.inl (g_lld 1 148)) := snd_lload_n dL_tale_147 rfl
theorem s45_148 {l : Launch} {G : KG} : kOpOK l G 45 148 (.inl (g_pushl 47 151)) := snd_ldc2 dL_tale_148 wK_5_37
theorem s45_151 {l : Launch} {G : KG} : kOpOK l G 45 151 (.inl (g_lop (fun x y => x * y) 152)) := snd_lmul dL_tale_151
theorem s45_152 {l : Launch} {G : KG} : kOpOK l G 45 152 (.inl (g_ald 0 153)) := snd_aload_n dL_tale_152 rfl
theorem s45_153 {l : Launch} {G : KG} : kOpOK l G 45 153 (.inr (.inl (33, 1, 156))) := ⟨snd_callV (c := 3) dL_tale_153 rfl mok_33 rfl rfl rfl rfl (by decide) rfl wM_5_39 wN_X3_loss wL_X3_loss wI_3 (by decide) ⟨rfl, rfl⟩, rfl, mok_33, by decide⟩
theorem s45_156 {l : Launch} {G : KG} : kOpOK l G 45 156 (.inl (g_i2l 157)) := snd_i2l dL_tale_156
theorem s45_157 {l : Launch} {G : KG} : kOpOK l G 45 157 (.inl (g_lop (fun x y => x + y) 158)) := snd_ladd dL_tale_157
theorem s45_158 {l : Launch} {G : KG} : kOpOK l G 45 158 (.inr (.inr 3)) := ⟨rfl, Or.inr (Or.inr (Or.inr ⟨rfl, dL_tale_158, rfl⟩))⟩
theorem s46_0 {l : Launch} {G : KG} : kOpOK l G 46 0 (.inl (g_ild 1 1)) := snd_iload_n dL_does_0 rfl
theorem s46_1 {l : Launch} {G : KG} : kOpOK l G 46 1 (.inl (g_push 15 3)) := snd_bipush dL_does_1 rfl
theorem s46_3 {l : Launch} {G : KG} : kOpOK l G 46 3 (.inl (g_iop (fun x y => x &&& y) 4)) := snd_iand dL_does_3
theorem s46_4 {l : Launch} {G : KG} : kOpOK l G 46 4 (.inl (g_tsw 11 [68, 68, 68, 91, 104, 145, 157, 162, 196, 196, 201, 214] 235)) := snd_tsw dL_does_4 (by decide) (by decide) (by decide)
theorem s46_68 {l : Launch} {G : KG} : kOpOK l G 46 68 (.inl (g_ald 0 69)) := snd_aload_n dL_does_68 rfl
theorem s46_69 {l : Launch} {G : KG} : kOpOK l G 46 69 (.inl (g_ild 1 70)) := snd_iload_n dL_does_69 rfl
theorem s46_70 {l : Launch} {G : KG} : kOpOK l G 46 70 (.inl (g_push 4 71)) := snd_iconst dL_does_70 rfl
theorem s46_71 {l : Launch} {G : KG} : kOpOK l G 46 71 (.inl (g_iop k_ishr 72)) := snd_ishr dL_does_71
theorem s46_72 {l : Launch} {G : KG} : kOpOK l G 46 72 (.inl (g_push 10 74)) := snd_bipush dL_does_72 rfl
theorem s46_74 {l : Launch} {G : KG} : kOpOK l G 46 74 (.inr (.inl (44, 2, 77))) := ⟨snd_callS dL_does_74 rfl mok_44 rfl rfl rfl wM_5_43 wS_L_low wI_5 (by decide) ⟨rfl, rfl⟩, rfl, mok_44, by decide⟩
theorem s46_77 {l : Launch} {G : KG} : kOpOK l G 46 77 (.inl (g_ild 1 78)) := snd_iload_n dL_does_77 rfl
theorem s46_78 {l : Launch} {G : KG} : kOpOK l G 46 78 (.inl (g_push 8 80)) := snd_bipush dL_does_78 rfl
theorem s46_80 {l : Launch} {G : KG} : kOpOK l G 46 80 (.inl (g_iop k_ishr 81)) := snd_ishr dL_does_80
theorem s46_81 {l : Launch} {G : KG} : kOpOK l G 46 81 (.inl (g_push 10001 84)) := snd_sipush dL_does_81 rfl
theorem s46_84 {l : Launch} {G : KG} : kOpOK l G 46 84 (.inr (.inl (44, 2, 87))) := ⟨snd_callS dL_does_84 rfl mok_44 rfl rfl rfl wM_5_43 wS_L_low wI_5 (by decide) ⟨rfl, rfl⟩, rfl, mok_44, by decide⟩
theorem s46_87 {l : Launch} {G : KG} : kOpOK l G 46 87 (.inr (.inl (18, 3, 90))) := ⟨snd_callV (c := 3) dL_does_87 rfl mok_18 rfl rfl rfl rfl (by decide) rfl wM_5_48 wN_X3_setMass wL_X3_setMass wI_3 (by decide) ⟨rfl, rfl⟩, rfl, mok_18, by decide⟩
theorem s46_90 {l : Launch} {G : KG} : kOpOK l G 46 90 (.inr (.inr 1)) := ⟨rfl, Or.inr (Or.inl ⟨rfl, dL_does_90, rfl⟩)⟩
theorem s46_91 {l : Launch} {G : KG} : kOpOK l G 46 91 (.inl (g_ald 0 92)) := snd_aload_n dL_does_91 rfl
theorem s46_92 {l : Launch} {G : KG} : kOpOK l G 46 92 (.inl (g_ild 1 93)) := snd_iload_n dL_does_92 rfl
theorem s46_93 {l : Launch} {G : KG} : kOpOK l G 46 93 (.inl (g_push 4 94)) := snd_iconst dL_does_93 rfl
theorem s46_94 {l : Launch} {G : KG} : kOpOK l G 46 94 (.inl (g_iop k_ishr 95)) := snd_ishr dL_does_94
theorem s46_95 {l : Launch} {G : KG} : kOpOK l G 46 95 (.inl (g_push 11 97)) := snd_bipush dL_does_95 rfl
theorem s46_97 {l : Launch} {G : KG} : kOpOK l G 46 97 (.inr (.inl (44, 2, 100))) := ⟨snd_callS dL_does_97 rfl mok_44 rfl rfl rfl wM_5_43 wS_L_low wI_5 (by decide) ⟨rfl, rfl⟩, rfl, mok_44, by decide⟩
theorem s46_100 {l : Launch} {G : KG} : kOpOK l G 46 100 (.inr (.inl (23, 2, 103))) := ⟨snd_callV (c := 3) dL_does_100 rfl mok_23 rfl rfl rfl rfl (by decide) rfl wM_5_51 wN_X3_addSieve wL_X3_addSieve wI_3 (by decide) ⟨rfl, rfl⟩, rfl, mok_23, by decide⟩
theorem s46_103 {l : Launch} {G : KG} : kOpOK l G 46 103 (.inr (.inr 1)) := ⟨rfl, Or.inr (Or.inl ⟨rfl, dL_does_103, rfl⟩)⟩
theorem s46_104 {l : Launch} {G : KG} : kOpOK l G 46 104 (.inl (g_ild 1 105)) := snd_iload_n dL_does_104 rfl
theorem s46_105 {l : Launch} {G : KG} : kOpOK l G 46 105 (.inl (g_push 20 107)) := snd_bipush dL_does_105 rfl
theorem s46_107 {l : Launch} {G : KG} : kOpOK l G 46 107 (.inl (g_iop k_ishr 108)) := snd_ishr dL_does_107
theorem s46_108 {l : Launch} {G : KG} : kOpOK l G 46 108 (.inl (g_push 3 109)) := snd_iconst dL_does_108 rfl
theorem s46_109 {l : Launch} {G : KG} : kOpOK l G 46 109 (.inl (g_iop (fun x y => x &&& y) 110)) := snd_iand dL_does_109
theorem s46_110 {l : Launch} {G : KG} : kOpOK l G 46 110 (.inl (g_br1 (fun x => decide (¬ x = 0)) 130 113)) := snd_if_ne dL_does_110 (by decide)
theorem s46_113 {l : Launch} {G : KG} : kOpOK l G 46 113 (.inl (g_ald 0 114)) := snd_aload_n dL_does_113 rfl
theorem s46_114 {l : Launch} {G : KG} : kOpOK l G 46 114 (.inl (g_push 1 115)) := snd_iconst dL_does_114 rfl
theorem s46_115 {l : Launch} {G : KG} : kOpOK l G 46 115 (.inl (g_ild 1 116)) := snd_iload_n dL_does_115 rfl
theorem s46_116 {l : Launch} {G : KG} : kOpOK l G 46 116 (.inl (g_push 4 117)) := snd_iconst dL_does_116 rfl
theorem s46_117 {l : Launch} {G : KG} : kOpOK l G 46 117 (.inl (g_iop k_ishr 118)) := snd_ishr dL_does_117
theorem s46_118 {l : Launch} {G : KG} : kOpOK l G 46 118 (.inl (g_push 9 120)) := snd_bipush dL_does_118 rfl
theorem s46_120 {l : Launch} {G : KG} : kOpOK l G 46 120 (.inr (.inl (44, 2, 123))) := ⟨snd_callS dL_does_120 rfl mok_44 rfl rfl rfl wM_5_43 wS_L_low wI_5 (by decide) ⟨rfl, rfl⟩, rfl, mok_44, by decide⟩
theorem s46_123 {l : Launch} {G : KG} : kOpOK l G 46 123 (.inl (g_iop (fun x y => x + y) 124)) := snd_iadd dL_does_123
theorem s46_124 {l : Launch} {G : KG} : kOpOK l G 46 124 (.inr (.inl (24, 2, 127))) := ⟨snd_callV (c := 3) dL_does_124 rfl mok_24 rfl rfl rfl rfl (by decide) rfl wM_5_54 wN_X3_removeSieve wL_X3_removeSieve wI_3 (by decide) ⟨rfl, rfl⟩, rfl, mok_24, by decide⟩
theorem s46_127 {l : Launch} {G : KG} : kOpOK l G 46 127 (.inl (g_goto 144)) := snd_goto dL_does_127 (by decide)
theorem s46_130 {l : Launch} {G : KG} : kOpOK l G 46 130 (.inl (g_ald 0 131)) := snd_aload_n dL_does_130 rfl
theorem s46_131 {l : Launch} {G : KG} : kOpOK l G 46 131 (.inl (g_push 1 132)) := snd_iconst dL_does_131 rfl
theorem s46_132 {l : Launch} {G : KG} : kOpOK l G 46 132 (.inl (g_ild 1 133)) := snd_iload_n dL_does_132 rfl
theorem s46_133 {l : Launch} {G : KG} : kOpOK l G 46 133 (.inl (g_push 4 134)) := snd_iconst dL_does_133 rfl
theorem s46_134 {l : Launch} {G : KG} : kOpOK l G 46 134 (.inl (g_iop k_ishr 135)) := snd_ishr dL_does_134
theorem s46_135 {l : Launch} {G : KG} : kOpOK l G 46 135 (.inl (g_push 9 137)) := snd_bipush dL_does_135 rfl
theorem s46_137 {l : Launch} {G : KG} : kOpOK l G 46 137 (.inr (.inl (44, 2, 140))) := ⟨snd_callS dL_does_137 rfl mok_44 rfl rfl rfl wM_5_43 wS_L_low wI_5 (by decide) ⟨rfl, rfl⟩, rfl, mok_44, by decide⟩
theorem s46_140 {l : Launch} {G : KG} : kOpOK l G 46 140 (.inl (g_iop (fun x y => x + y) 141)) := snd_iadd dL_does_140
theorem s46_141 {l : Launch} {G : KG} : kOpOK l G 46 141 (.inr (.inl (23, 2, 144))) := ⟨snd_callV (c := 3) dL_does_141 rfl mok_23 rfl rfl rfl rfl (by decide) rfl wM_5_51 wN_X3_addSieve wL_X3_addSieve wI_3 (by decide) ⟨rfl, rfl⟩, rfl, mok_23, by decide⟩
theorem s46_144 {l : Launch} {G : KG} : kOpOK l G 46 144 (.inr (.inr 1)) := ⟨rfl, Or.inr (Or.inl ⟨rfl, dL_does_144, rfl⟩)⟩
theorem s46_145 {l : Launch} {G : KG} : kOpOK l G 46 145 (.inl (g_ald 0 146)) := snd_aload_n dL_does_145 rfl
theorem s46_146 {l : Launch} {G : KG} : kOpOK l G 46 146 (.inl (g_ild 1 147)) := snd_iload_n dL_does_146 rfl
theorem s46_147 {l : Launch} {G : KG} : kOpOK l G 46 147 (.inl (g_push 4 148)) := snd_iconst dL_does_147 rfl
theorem s46_148 {l : Launch} {G : KG} : kOpOK l G 46 148 (.inl (g_iop k_ishr 149)) := snd_ishr dL_does_148
theorem s46_149 {l : Launch} {G : KG} : kOpOK l G 46 149 (.inl (g_push 3 150)) := snd_iconst dL_does_149 rfl
theorem s46_150 {l : Launch} {G : KG} : kOpOK l G 46 150 (.inr (.inl (44, 2, 153))) := ⟨snd_callS dL_does_150 rfl mok_44 rfl rfl rfl wM_5_43 wS_L_low wI_5 (by decide) ⟨rfl, rfl⟩, rfl, mok_44, by decide⟩
theorem s46_153 {l : Launch} {G : KG} : kOpOK l G 46 153 (.inr (.inl (21, 2, 156))) := ⟨snd_callV (c := 3) dL_does_153 rfl mok_21 rfl rfl rfl rfl (by decide) rfl wM_5_57 wN_X3_split wL_X3_split wI_3 (by decide) ⟨rfl, rfl⟩, rfl, mok_21, by decide⟩
theorem s46_156 {l : Launch} {G : KG} : kOpOK l G 46 156 (.inr (.inr 1)) := ⟨rfl, Or.inr (Or.inl ⟨rfl, dL_does_156, rfl⟩)⟩
theorem s46_157 {l : Launch} {G : KG} : kOpOK l G 46 157 (.inl (g_ald 0 158)) := snd_aload_n dL_does_157 rfl
theorem s46_158 {l : Launch} {G : KG} : kOpOK l G 46 158 (.inr (.inl (22, 1, 161))) := ⟨snd_callV (c := 3) dL_does_158 rfl mok_22 rfl rfl rfl rfl (by decide) rfl wM_5_60 wN_X3_combine wL_X3_combine wI_3 (by decide) ⟨rfl, rfl⟩, rfl, mok_22, by decide⟩
theorem s46_161 {l : Launch} {G : KG} : kOpOK l G 46 161 (.inr (.inr 1)) := ⟨rfl, Or.inr (Or.inl ⟨rfl, dL_does_161, rfl⟩)⟩
theorem s46_162 {l : Launch} {G : KG} : kOpOK l G 46 162 (.inl (g_ald 0 163)) := snd_aload_n dL_does_162 rfl
theorem s46_163 {l : Launch} {G : KG} : kOpOK l G 46 163 (.inl (g_ild 1 164)) := snd_iload_n dL_does_163 rfl
theorem s46_164 {l : Launch} {G : KG} : kOpOK l G 46 164 (.inl (g_push 4 165)) := snd_iconst dL_does_164 rfl
theorem s46_165 {l : Launch} {G : KG} : kOpOK l G 46 165 (.inl (g_iop k_ishr 166)) := snd_ishr dL_does_165
theorem s46_166 {l : Launch} {G : KG} : kOpOK l G 46 166 (.inl (g_push 900 169)) := snd_sipush dL_does_166 rfl
theorem s46_169 {l : Launch} {G : KG} : kOpOK l G 46 169 (.inr (.inl (44, 2, 172))) := ⟨snd_callS dL_does_169 rfl mok_44 rfl rfl rfl wM_5_43 wS_L_low wI_5 (by decide) ⟨rfl, rfl⟩, rfl, mok_44, by decide⟩
theorem s46_172 {l : Launch} {G : KG} : kOpOK l G 46 172 (.inl (g_ild 1 173)) := snd_iload_n dL_does_172 rfl
theorem s46_173 {l : Launch} {G : KG} : kOpOK l G 46 173 (.inl (g_push 14 175)) := snd_bipush dL_does_173 rfl
theorem s46_175 {l : Launch} {G : KG} : kOpOK l G 46 175 (.inl (g_iop k_ishr 176)) := snd_ishr dL_does_175
theorem s46_176 {l : Launch} {G : KG} : kOpOK l G 46 176 (.inl (g_push 201 179)) := snd_sipush dL_does_176 rfl
theorem s46_179 {l : Launch} {G : KG} : kOpOK l G 46 179 (.inr (.inl (44, 2, 182))) := ⟨snd_callS dL_does_179 rfl mok_44 rfl rfl rfl wM_5_43 wS_L_low wI_5 (by decide) ⟨rfl, rfl⟩, rfl, mok_44, by decide⟩
theorem s46_182 {l : Launch} {G : KG} : kOpOK l G 46 182 (.inl (g_ild 1 183)) := snd_iload_n dL_does_182 rfl
theorem s46_183 {l : Launch} {G : KG} : kOpOK l G 46 183 (.inl (g_push 22 185)) := snd_bipush dL_does_183 rfl
theorem s46_185 {l : Launch} {G : KG} : kOpOK l G 46 185 (.inl (g_iop k_ishr 186)) := snd_ishr dL_does_185
theorem s46_186 {l : Launch} {G : KG} : kOpOK l G 46 186 (.inl (g_push 101 188)) := snd_bipush dL_does_186 rfl
theorem s46_188 {l : Launch} {G : KG} : kOpOK l G 46 188 (.inr (.inl (44, 2, 191))) := ⟨snd_callS dL_does_188 rfl mok_44 rfl rfl rfl wM_5_43 wS_L_low wI_5 (by decide) ⟨rfl, rfl⟩, rfl, mok_44, by decide⟩
theorem s46_191 {l : Launch} {G : KG} : kOpOK l G 46 191 (.inl (g_push 5 192)) := snd_iconst dL_does_191 rfl
theorem s46_192 {l : Launch} {G : KG} : kOpOK l G 46 192 (.inr (.inl (25, 5, 195))) := ⟨snd_callV (c := 3) dL_does_192 rfl mok_25 rfl rfl rfl rfl (by decide) rfl wM_5_63 wN_X3_setRules wL_X3_setRules wI_3 (by decide) ⟨rfl, rfl⟩, rfl, mok_25, by decide⟩
theorem s46_195 {l : Launch} {G : KG} : kOpOK l G 46 195 (.inr (.inr 1)) := ⟨rfl, Or.inr (Or.inl ⟨rfl, dL_does_195, rfl⟩)⟩
theorem s46_196 {l : Launch} {G : KG} : kOpOK l G 46 196 (.inl (g_ald 0 197)) := snd_aload_n dL_does_196 rfl
theorem s46_197 {l : Launch} {G : KG} : kOpOK l G 46 197 (.inr (.inl (29, 1, 200))) := ⟨snd_callV (c := 3) dL_does_197 rfl mok_29 rfl rfl rfl rfl (by decide) rfl wM_5_67 wN_X3_charge wL_X3_charge wI_3 (by decide) ⟨rfl, rfl⟩, rfl, mok_29, by decide⟩
theorem s46_200 {l : Launch} {G : KG} : kOpOK l G 46 200 (.inr (.inr 1)) := ⟨rfl, Or.inr (Or.inl ⟨rfl, dL_does_200, rfl⟩)⟩
theorem s46_201 {l : Launch} {G : KG} : kOpOK l G 46 201 (.inl (g_ald 0 202)) := snd_aload_n dL_does_201 rfl
theorem s46_202 {l : Launch} {G : KG} : kOpOK l G 46 202 (.inl (g_ild 1 203)) := snd_iload_n dL_does_202 rfl
theorem s46_203 {l : Launch} {G : KG} : kOpOK l G 46 203 (.inl (g_push 4 204)) := snd_iconst dL_does_203 rfl
theorem s46_204 {l : Launch} {G : KG} : kOpOK l G 46 204 (.inl (g_iop k_ishr 205)) := snd_ishr dL_does_204
theorem s46_205 {l : Launch} {G : KG} : kOpOK l G 46 205 (.inl (g_push 7 207)) := snd_bipush dL_does_205 rfl
theorem s46_207 {l : Launch} {G : KG} : kOpOK l G 46 207 (.inr (.inl (44, 2, 210))) := ⟨snd_callS dL_does_207 rfl mok_44 rfl rfl rfl wM_5_43 wS_L_low wI_5 (by decide) ⟨rfl, rfl⟩, rfl, mok_44, by decide⟩
theorem s46_210 {l : Launch} {G : KG} : kOpOK l G 46 210 (.inr (.inl (31, 2, 213))) := ⟨snd_callV (c := 3) dL_does_210 rfl mok_31 rfl rfl rfl rfl (by decide) rfl wM_5_70 wN_X3_collect wL_X3_collect wI_3 (by decide) ⟨rfl, rfl⟩, rfl, mok_31, by decide⟩
theorem s46_213 {l : Launch} {G : KG} : kOpOK l G 46 213 (.inr (.inr 1)) := ⟨rfl, Or.inr (Or.inl ⟨rfl, dL_does_213, rfl⟩)⟩
theorem s46_214 {l : Launch} {G : KG} : kOpOK l G 46 214 (.inl (g_ald 0 215)) := snd_aload_n dL_does_214 rfl
theorem s46_215 {l : Launch} {G : KG} : kOpOK l G 46 215 (.inl (g_ild 1 216)) := snd_iload_n dL_does_215 rfl
theorem s46_216 {l : Launch} {G : KG} : kOpOK l G 46 216 (.inl (g_push 4 217)) := snd_iconst dL_does_216 rfl
theorem s46_217 {l : Launch} {G : KG} : kOpOK l G 46 217 (.inl (g_iop k_ishr 218)) := snd_ishr dL_does_217
theorem s46_218 {l : Launch} {G : KG} : kOpOK l G 46 218 (.inl (g_push 6 220)) := snd_bipush dL_does_218 rfl
theorem s46_220 {l : Launch} {G : KG} : kOpOK l G 46 220 (.inr (.inl (44, 2, 223))) := ⟨snd_callS dL_does_220 rfl mok_44 rfl rfl rfl wM_5_43 wS_L_low wI_5 (by decide) ⟨rfl, rfl⟩, rfl, mok_44, by decide⟩
theorem s46_223 {l : Launch} {G : KG} : kOpOK l G 46 223 (.inl (g_ild 1 224)) := snd_iload_n dL_does_223 rfl
theorem s46_224 {l : Launch} {G : KG} : kOpOK l G 46 224 (.inl (g_push 8 226)) := snd_bipush dL_does_224 rfl
theorem s46_226 {l : Launch} {G : KG} : kOpOK l G 46 226 (.inl (g_iop k_ishr 227)) := snd_ishr dL_does_226
theorem s46_227 {l : Launch} {G : KG} : kOpOK l G 46 227 (.inl (g_push 2 228)) := snd_iconst dL_does_227 rfl
theorem s46_228 {l : Launch} {G : KG} : kOpOK l G 46 228 (.inr (.inl (44, 2, 231))) := ⟨snd_callS dL_does_228 rfl mok_44 rfl rfl rfl wM_5_43 wS_L_low wI_5 (by decide) ⟨rfl, rfl⟩, rfl, mok_44, by decide⟩
theorem s46_231 {l : Launch} {G : KG} : kOpOK l G 46 231 (.inr (.inl (32, 3, 234))) := ⟨snd_callV (c := 3) dL_does_231 rfl mok_32 rfl rfl rfl rfl (by decide) rfl wM_5_73 wN_X3_brush wL_X3_brush wI_3 (by decide) ⟨rfl, rfl⟩, rfl, mok_32, by decide⟩
theorem s46_234 {l : Launch} {G : KG} : kOpOK l G 46 234 (.inr (.inr 1)) := ⟨rfl, Or.inr (Or.inl ⟨rfl, dL_does_234, rfl⟩)⟩
theorem s46_235 {l : Launch} {G : KG} : kOpOK l G 46 235 (.inl (g_ald 0 236)) := snd_aload_n dL_does_235 rfl
theorem s46_236 {l : Launch} {G : KG} : kOpOK l G 46 236 (.inl (g_ild 1 237)) := snd_iload_n dL_does_236 rfl
theorem s46_237 {l : Launch} {G : KG} : kOpOK l G 46 237 (.inl (g_push 4 238)) := snd_iconst dL_does_237 rfl
theorem s46_238 {l : Launch} {G : KG} : kOpOK l G 46 238 (.inl (g_iop k_ishr 239)) := snd_ishr dL_does_238
theorem s46_239 {l : Launch} {G : KG} : kOpOK l G 46 239 (.inl (g_push 15 241)) := snd_bipush dL_does_239 rfl
theorem s46_241 {l : Launch} {G : KG} : kOpOK l G 46 241 (.inr (.inl (44, 2, 244))) := ⟨snd_callS dL_does_241 rfl mok_44 rfl rfl rfl wM_5_43 wS_L_low wI_5 (by decide) ⟨rfl, rfl⟩, rfl, mok_44, by decide⟩
theorem s46_244 {l : Launch} {G : KG} : kOpOK l G 46 244 (.inr (.inl (30, 2, 247))) := ⟨snd_callV (c := 3) dL_does_244 rfl mok_30 rfl rfl rfl rfl (by decide) rfl wM_5_76 wN_X3_shake wL_X3_shake wI_3 (by decide) ⟨rfl, rfl⟩, rfl, mok_30, by decide⟩
theorem s46_247 {l : Launch} {G : KG} : kOpOK l G 46 247 (.inr (.inr 1)) := ⟨rfl, Or.inr (Or.inl ⟨rfl, dL_does_247, rfl⟩)⟩
theorem s47_25 {l : Launch} {G : KG} : kOpL l G 25 (.inl (g_ald 1 26)) := snd_aload_n dL_law_25 rfl
theorem s47_26 {l : Launch} {G : KG} : kOpL l G 26 (.inr (.inl (45, 1, 29))) := ⟨snd_callS dL_law_26 rfl mok_45 rfl rfl rfl wM_5_84 wS_L_tale wI_5 (by decide) ⟨rfl, rfl⟩, rfl, mok_45, by decide⟩
theorem s47_29 {l : Launch} {G : KG} : kOpL l G 29 (.inl (g_lst 5 31)) := snd_lstore dL_law_29
theorem s47_31 {l : Launch} {G : KG} : kOpL l G 31 (.inl (g_ald 1 32)) := snd_aload_n dL_law_31 rfl
theorem s47_32 {l : Launch} {G : KG} : kOpL l G 32 (.inl (g_push (-1) 33)) := snd_iconst dL_law_32 rfl
theorem s47_33 {l : Launch} {G : KG} : kOpL l G 33 (.inr (.inl (19, 2, 36))) := ⟨snd_callV (c := 3) dL_law_33 rfl mok_19 rfl rfl rfl rfl (by decide) rfl wM_5_20 wN_X3_mass wL_X3_mass wI_3 (by decide) ⟨rfl, rfl⟩, rfl, mok_19, by decide⟩
theorem s47_36 {l : Launch} {G : KG} : kOpL l G 36 (.inl (g_ald 1 37)) := snd_aload_n dL_law_36 rfl
theorem s47_37 {l : Launch} {G : KG} : kOpL l G 37 (.inl (g_push (-1) 38)) := snd_iconst dL_law_37 rfl
theorem s47_38 {l : Launch} {G : KG} : kOpL l G 38 (.inr (.inl (20, 2, 41))) := ⟨snd_callV (c := 3) dL_law_38 rfl mok_20 rfl rfl rfl rfl (by decide) rfl wM_5_23 wN_X3_reserve wL_X3_reserve wI_3 (by decide) ⟨rfl, rfl⟩, rfl, mok_20, by decide⟩
theorem s47_41 {l : Launch} {G : KG} : kOpL l G 41 (.inl (g_iop (fun x y => x + y) 42)) := snd_iadd dL_law_41
theorem s47_42 {l : Launch} {G : KG} : kOpL l G 42 (.inl (g_ist 7 44)) := snd_istore dL_law_42
theorem s47_44 {l : Launch} {G : KG} : kOpL l G 44 (.inl (g_ald 1 45)) := snd_aload_n dL_law_44 rfl
theorem s47_45 {l : Launch} {G : KG} : kOpL l G 45 (.inr (.inl (33, 1, 48))) := ⟨snd_callV (c := 3) dL_law_45 rfl mok_33 rfl rfl rfl rfl (by decide) rfl wM_5_39 wN_X3_loss wL_X3_loss wI_3 (by decide) ⟨rfl, rfl⟩, rfl, mok_33, by decide⟩
theorem s47_48 {l : Launch} {G : KG} : kOpL l G 48 (.inl (g_ist 8 50)) := snd_istore dL_law_48
theorem s47_50 {l : Launch} {G : KG} : kOpL l G 50 (.inl (g_ald 1 51)) := snd_aload_n dL_law_50 rfl
theorem s47_51 {l : Launch} {G : KG} : kOpL l G 51 (.inl (g_ild 4 53)) := snd_iload dL_law_51
theorem s47_53 {l : Launch} {G : KG} : kOpL l G 53 (.inr (.inl (46, 2, 56))) := ⟨snd_callS dL_law_53 rfl mok_46 rfl rfl rfl wM_5_88 wS_L_does wI_5 (by decide) ⟨rfl, rfl⟩, rfl, mok_46, by decide⟩
theorem s47_56 {l : Launch} {G : KG} : kOpL l G 56 (.inl (g_ist 9 58)) := snd_istore dL_law_56
theorem s47_58 {l : Launch} {G : KG} : kOpL l G 58 (.inl (g_ild 9 60)) := snd_iload dL_law_58
theorem s47_60 {l : Launch} {G : KG} : kOpL l G 60 (.inl (g_br1 (fun x => decide (0 ≤ x)) 75 63)) := snd_if_ge dL_law_60 (by decide)
theorem s47_63 {l : Launch} {G : KG} : kOpL l G 63 (.inl (g_ald 1 64)) := snd_aload_n dL_law_63 rfl
theorem s47_64 {l : Launch} {G : KG} : kOpL l G 64 (.inr (.inl (45, 1, 67))) := ⟨snd_callS dL_law_64 rfl mok_45 rfl rfl rfl wM_5_84 wS_L_tale wI_5 (by decide) ⟨rfl, rfl⟩, rfl, mok_45, by decide⟩
theorem s47_67 {l : Launch} {G : KG} : kOpL l G 67 (.inl (g_lld 5 69)) := snd_lload dL_law_67
theorem s47_69 {l : Launch} {G : KG} : kOpL l G 69 (.inl (g_lcmp 70)) := snd_lcmp dL_law_69
theorem s47_70 {l : Launch} {G : KG} : kOpL l G 70 (.inl (g_br1 (fun x => decide (x = 0)) 75 73)) := snd_if_eq dL_law_70 (by decide)
theorem s47_73 {l : Launch} {G : KG} : kOpL l G 73 (.inl (g_push 0 74)) := snd_iconst dL_law_73 rfl
theorem s47_75 {l : Launch} {G : KG} : kOpL l G 75 (.inl (g_ild 4 77)) := snd_iload dL_law_75
theorem s47_77 {l : Launch} {G : KG} : kOpL l G 77 (.inl (g_push 15 79)) := snd_bipush dL_law_77 rfl
theorem s47_79 {l : Launch} {G : KG} : kOpL l G 79 (.inl (g_iop (fun x y => x &&& y) 80)) := snd_iand dL_law_79
theorem s47_80 {l : Launch} {G : KG} : kOpL l G 80 (.inl (g_ist 10 82)) := snd_istore dL_law_80
theorem s47_82 {l : Launch} {G : KG} : kOpL l G 82 (.inl (g_ild 9 84)) := snd_iload dL_law_82
theorem s47_84 {l : Launch} {G : KG} : kOpL l G 84 (.inl (g_br1 (fun x => decide (x < 0)) 118 87)) := snd_if_lt dL_law_84 (by decide)
theorem s47_87 {l : Launch} {G : KG} : kOpL l G 87 (.inl (g_ild 10 89)) := snd_iload dL_law_87
theorem s47_89 {l : Launch} {G : KG} : kOpL l G 89 (.inl (g_push 5 90)) := snd_iconst dL_law_89 rfl
theorem s47_90 {l : Launch} {G : KG} : kOpL l G 90 (.inl (g_br2 (fun x y => decide (x = y)) 100 93)) := snd_icmp_eq dL_law_90 (by decide)
theorem s47_93 {l : Launch} {G : KG} : kOpL l G 93 (.inl (g_ild 10 95)) := snd_iload dL_law_93
theorem s47_95 {l : Launch} {G : KG} : kOpL l G 95 (.inl (g_push 6 97)) := snd_bipush dL_law_95 rfl
theorem s47_97 {l : Launch} {G : KG} : kOpL l G 97 (.inl (g_br2 (fun x y => decide (¬ x = y)) 118 100)) := snd_icmp_ne dL_law_97 (by decide)
theorem s47_100 {l : Launch} {G : KG} : kOpL l G 100 (.inl (g_ald 1 101)) := snd_aload_n dL_law_100 rfl
theorem s47_101 {l : Launch} {G : KG} : kOpL l G 101 (.inl (g_push (-1) 102)) := snd_iconst dL_law_101 rfl
theorem s47_102 {l : Launch} {G : KG} : kOpL l G 102 (.inr (.inl (19, 2, 105))) := ⟨snd_callV (c := 3) dL_law_102 rfl mok_19 rfl rfl rfl rfl (by decide) rfl wM_5_20 wN_X3_mass wL_X3_mass wI_3 (by decide) ⟨rfl, rfl⟩, rfl, mok_19, by decide⟩
theorem s47_105 {l : Launch} {G : KG} : kOpL l G 105 (.inl (g_ald 1 106)) := snd_aload_n dL_law_105 rfl
theorem s47_106 {l : Launch} {G : KG} : kOpL l G 106 (.inl (g_push (-1) 107)) := snd_iconst dL_law_106 rfl
theorem s47_107 {l : Launch} {G : KG} : kOpL l G 107 (.inr (.inl (20, 2, 110))) := ⟨snd_callV (c := 3) dL_law_107 rfl mok_20 rfl rfl rfl rfl (by decide) rfl wM_5_23 wN_X3_reserve wL_X3_reserve wI_3 (by decide) ⟨rfl, rfl⟩, rfl, mok_20, by decide⟩
theorem s47_110 {l : Launch} {G : KG} : kOpL l G 110 (.inl (g_iop (fun x y => x + y) 111)) := snd_iadd dL_law_110
theorem s47_111 {l : Launch} {G : KG} : kOpL l G 111 (.inl (g_ild 7 113)) := snd_iload dL_law_111
theorem s47_113 {l : Launch} {G : KG} : kOpL l G 113 (.inl (g_br2 (fun x y => decide (x = y)) 118 116)) := snd_icmp_eq dL_law_113 (by decide)
theorem s47_116 {l : Launch} {G : KG} : kOpL l G 116 (.inl (g_push 0 117)) := snd_iconst dL_law_116 rfl
theorem s47_118 {l : Launch} {G : KG} : kOpL l G 118 (.inl (g_ild 9 120)) := snd_iload dL_law_118
theorem s47_120 {l : Launch} {G : KG} : kOpL l G 120 (.inl (g_br1 (fun x => decide (x < 0)) 164 123)) := snd_if_lt dL_law_120 (by decide)
theorem s47_123 {l : Launch} {G : KG} : kOpL l G 123 (.inl (g_ild 10 125)) := snd_iload dL_law_123
theorem s47_125 {l : Launch} {G : KG} : kOpL l G 125 (.inl (g_push 10 127)) := snd_bipush dL_law_125 rfl
theorem s47_127 {l : Launch} {G : KG} : kOpL l G 127 (.inl (g_br2 (fun x y => decide (x = y)) 137 130)) := snd_icmp_eq dL_law_127 (by decide)
theorem s47_130 {l : Launch} {G : KG} : kOpL l G 130 (.inl (g_ild 10 132)) := snd_iload dL_law_130
theorem s47_132 {l : Launch} {G : KG} : kOpL l G 132 (.inl (g_push 11 134)) := snd_bipush dL_law_132 rfl
theorem s47_134 {l : Launch} {G : KG} : kOpL l G 134 (.inl (g_br2 (fun x y => decide (x ≤ y)) 164 137)) := snd_icmp_le dL_law_134 (by decide)
theorem s47_137 {l : Launch} {G : KG} : kOpL l G 137 (.inl (g_ald 1 138)) := snd_aload_n dL_law_137 rfl
theorem s47_138 {l : Launch} {G : KG} : kOpL l G 138 (.inr (.inl (33, 1, 141))) := ⟨snd_callV (c := 3) dL_law_138 rfl mok_33 rfl rfl rfl rfl (by decide) rfl wM_5_39 wN_X3_loss wL_X3_loss wI_3 (by decide) ⟨rfl, rfl⟩, rfl, mok_33, by decide⟩
theorem s47_141 {l : Launch} {G : KG} : kOpL l G 141 (.inl (g_ild 8 143)) := snd_iload dL_law_141
theorem s47_143 {l : Launch} {G : KG} : kOpL l G 143 (.inl (g_br2 (fun x y => decide (x < y)) 162 146)) := snd_icmp_lt dL_law_143 (by decide)
theorem s47_146 {l : Launch} {G : KG} : kOpL l G 146 (.inl (g_ild 10 148)) := snd_iload dL_law_146
theorem s47_148 {l : Launch} {G : KG} : kOpL l G 148 (.inl (g_push 10 150)) := snd_bipush dL_law_148 rfl
theorem s47_150 {l : Launch} {G : KG} : kOpL l G 150 (.inl (g_br2 (fun x y => decide (¬ x = y)) 164 153)) := snd_icmp_ne dL_law_150 (by decide)
theorem s47_153 {l : Launch} {G : KG} : kOpL l G 153 (.inl (g_ald 1 154)) := snd_aload_n dL_law_153 rfl
theorem s47_154 {l : Launch} {G : KG} : kOpL l G 154 (.inr (.inl (33, 1, 157))) := ⟨snd_callV (c := 3) dL_law_154 rfl mok_33 rfl rfl rfl rfl (by decide) rfl wM_5_39 wN_X3_loss wL_X3_loss wI_3 (by decide) ⟨rfl, rfl⟩, rfl, mok_33, by decide⟩
theorem s47_157 {l : Launch} {G : KG} : kOpL l G 157 (.inl (g_ild 8 159)) := snd_iload dL_law_157
theorem s47_159 {l : Launch} {G : KG} : kOpL l G 159 (.inl (g_br2 (fun x y => decide (x = y)) 164 162)) := snd_icmp_eq dL_law_159 (by decide)
theorem s47_162 {l : Launch} {G : KG} : kOpL l G 162 (.inl (g_push 0 163)) := snd_iconst dL_law_162 rfl
theorem s47_164 {l : Launch} {G : KG} : kOpL l G 164 (.inl (g_ild 9 166)) := snd_iload dL_law_164
theorem s47_166 {l : Launch} {G : KG} : kOpL l G 166 (.inl (g_br1 (fun x => decide (0 ≤ x)) 173 169)) := snd_if_ge dL_law_166 (by decide)
theorem s47_169 {l : Launch} {G : KG} : kOpL l G 169 (.inl (g_ild 2 170)) := snd_iload_n dL_law_169 rfl
theorem s47_170 {l : Launch} {G : KG} : kOpL l G 170 (.inl (g_goto 187)) := snd_goto dL_law_170 (by decide)
theorem s47_173 {l : Launch} {G : KG} : kOpL l G 173 (.inl (g_ild 2 174)) := snd_iload_n dL_law_173 rfl
theorem s47_174 {l : Launch} {G : KG} : kOpL l G 174 (.inl (g_push 6 176)) := snd_bipush dL_law_174 rfl
theorem s47_176 {l : Launch} {G : KG} : kOpL l G 176 (.inl (g_br2 (fun x y => decide (y ≤ x)) 185 179)) := snd_icmp_ge dL_law_176 (by decide)
theorem s47_179 {l : Launch} {G : KG} : kOpL l G 179 (.inl (g_ild 2 180)) := snd_iload_n dL_law_179 rfl
theorem s47_180 {l : Launch} {G : KG} : kOpL l G 180 (.inl (g_push 1 181)) := snd_iconst dL_law_180 rfl
theorem s47_181 {l : Launch} {G : KG} : kOpL l G 181 (.inl (g_iop (fun x y => x + y) 182)) := snd_iadd dL_law_181
theorem s47_182 {l : Launch} {G : KG} : kOpL l G 182 (.inl (g_goto 187)) := snd_goto dL_law_182 (by decide)
theorem s47_185 {l : Launch} {G : KG} : kOpL l G 185 (.inl (g_push 6 187)) := snd_bipush dL_law_185 rfl
theorem s47_187 {l : Launch} {G : KG} : kOpL l G 187 (.inl (g_ist 2 188)) := snd_istore_n dL_law_187 rfl
theorem s47_188 {l : Launch} {G : KG} : kOpL l G 188 (.inl (g_ild 9 190)) := snd_iload dL_law_188
theorem s47_190 {l : Launch} {G : KG} : kOpL l G 190 (.inl (g_br1 (fun x => decide (x < 0)) 228 193)) := snd_if_lt dL_law_190 (by decide)
theorem s47_193 {l : Launch} {G : KG} : kOpL l G 193 (.inl (g_ild 4 195)) := snd_iload dL_law_193
theorem s47_195 {l : Launch} {G : KG} : kOpL l G 195 (.inl (g_push 26 197)) := snd_bipush dL_law_195 rfl
theorem s47_197 {l : Launch} {G : KG} : kOpL l G 197 (.inl (g_iop k_ishr 198)) := snd_ishr dL_law_197
theorem s47_198 {l : Launch} {G : KG} : kOpL l G 198 (.inl (g_push 3 199)) := snd_iconst dL_law_198 rfl
theorem s47_199 {l : Launch} {G : KG} : kOpL l G 199 (.inl (g_iop (fun x y => x &&& y) 200)) := snd_iand dL_law_199
theorem s47_200 {l : Launch} {G : KG} : kOpL l G 200 (.inl (g_br1 (fun x => decide (¬ x = 0)) 228 203)) := snd_if_ne dL_law_200 (by decide)
theorem s47_203 {l : Launch} {G : KG} : kOpL l G 203 (.inl (g_ald 1 204)) := snd_aload_n dL_law_203 rfl
theorem s47_204 {l : Launch} {G : KG} : kOpL l G 204 (.inr (.inl (35, 1, 207))) := ⟨snd_callV (c := 3) dL_law_204 rfl mok_35 rfl rfl rfl rfl (by decide) rfl wM_5_92 wN_X3_undo wL_X3_undo wI_3 (by decide) ⟨rfl, rfl⟩, rfl, mok_35, by decide⟩
theorem s47_207 {l : Launch} {G : KG} : kOpL l G 207 (.inl (g_ild 2 208)) := snd_iload_n dL_law_207 rfl
theorem s47_208 {l : Launch} {G : KG} : kOpL l G 208 (.inl (g_push 1 209)) := snd_iconst dL_law_208 rfl
theorem s47_209 {l : Launch} {G : KG} : kOpL l G 209 (.inl (g_iop (fun x y => x - y) 210)) := snd_isub dL_law_209
theorem s47_210 {l : Launch} {G : KG} : kOpL l G 210 (.inl (g_br2 (fun x y => decide (¬ x = y)) 223 213)) := snd_icmp_ne dL_law_210 (by decide)
theorem s47_213 {l : Launch} {G : KG} : kOpL l G 213 (.inl (g_ald 1 214)) := snd_aload_n dL_law_213 rfl
theorem s47_214 {l : Launch} {G : KG} : kOpL l G 214 (.inr (.inl (45, 1, 217))) := ⟨snd_callS dL_law_214 rfl mok_45 rfl rfl rfl wM_5_84 wS_L_tale wI_5 (by decide) ⟨rfl, rfl⟩, rfl, mok_45, by decide⟩
theorem s47_217 {l : Launch} {G : KG} : kOpL l G 217 (.inl (g_lld 5 219)) := snd_lload dL_law_217
theorem s47_219 {l : Launch} {G : KG} : kOpL l G 219 (.inl (g_lcmp 220)) := snd_lcmp dL_law_219
theorem s47_220 {l : Launch} {G : KG} : kOpL l G 220 (.inl (g_br1 (fun x => decide (x = 0)) 225 223)) := snd_if_eq dL_law_220 (by decide)
theorem s47_223 {l : Launch} {G : KG} : kOpL l G 223 (.inl (g_push 0 224)) := snd_iconst dL_law_223 rfl
theorem s47_225 {l : Launch} {G : KG} : kOpL l G 225 (.inl (g_iinc 2 (-1) 228)) := snd_iinc dL_law_225 rfl
theorem s47_228 {l : Launch} {G : KG} : kOpL l G 228 (.inl (g_ald 1 229)) := snd_aload_n dL_law_228 rfl
theorem s47_229 {l : Launch} {G : KG} : kOpL l G 229 (.inl (g_push 9 231)) := snd_bipush dL_law_229 rfl
theorem s47_231 {l : Launch} {G : KG} : kOpL l G 231 (.inr (.inl (26, 2, 234))) := ⟨snd_callV (c := 3) dL_law_231 rfl mok_26 rfl rfl rfl rfl (by decide) rfl wM_5_12 wN_X3_count wL_X3_count wI_3 (by decide) ⟨rfl, rfl⟩, rfl, mok_26, by decide⟩
theorem s47_234 {l : Launch} {G : KG} : kOpL l G 234 (.inl (g_ild 2 235)) := snd_iload_n dL_law_234 rfl
theorem s47_235 {l : Launch} {G : KG} : kOpL l G 235 (.inl (g_br2 (fun x y => decide (¬ x = y)) 247 238)) := snd_icmp_ne dL_law_235 (by decide)
theorem s47_238 {l : Launch} {G : KG} : kOpL l G 238 (.inl (g_ald 1 239)) := snd_aload_n dL_law_238 rfl
theorem s47_239 {l : Launch} {G : KG} : kOpL l G 239 (.inr (.inl (33, 1, 242))) := ⟨snd_callV (c := 3) dL_law_239 rfl mok_33 rfl rfl rfl rfl (by decide) rfl wM_5_39 wN_X3_loss wL_X3_loss wI_3 (by decide) ⟨rfl, rfl⟩, rfl, mok_33, by decide⟩
theorem s47_242 {l : Launch} {G : KG} : kOpL l G 242 (.inl (g_push (-2) 244)) := snd_bipush dL_law_242 rfl
theorem s47_244 {l : Launch} {G : KG} : kOpL l G 244 (.inl (g_br2 (fun x y => decide (y ≤ x)) 249 247)) := snd_icmp_ge dL_law_244 (by decide)
theorem s47_247 {l : Launch} {G : KG} : kOpL l G 247 (.inl (g_push 0 248)) := snd_iconst dL_law_247 rfl
theorem s47_249 {l : Launch} {G : KG} : kOpL l G 249 (.inl (g_push 0 250)) := snd_iconst dL_law_249 rfl
theorem s47_250 {l : Launch} {G : KG} : kOpL l G 250 (.inl (g_ist 11 252)) := snd_istore dL_law_250
theorem s47_252 {l : Launch} {G : KG} : kOpL l G 252 (.inl (g_ild 11 254)) := snd_iload dL_law_252
theorem s47_254 {l : Launch} {G : KG} : kOpL l G 254 (.inl (g_ald 1 255)) := snd_aload_n dL_law_254 rfl
theorem s47_255 {l : Launch} {G : KG} : kOpL l G 255 (.inl (g_push 0 256)) := snd_iconst dL_law_255 rfl
theorem s47_256 {l : Launch} {G : KG} : kOpL l G 256 (.inr (.inl (26, 2, 259))) := ⟨snd_callV (c := 3) dL_law_256 rfl mok_26 rfl rfl rfl rfl (by decide) rfl wM_5_12 wN_X3_count wL_X3_count wI_3 (by decide) ⟨rfl, rfl⟩, rfl, mok_26, by decide⟩
theorem s47_259 {l : Launch} {G : KG} : kOpL l G 259 (.inl (g_br2 (fun x y => decide (y < x)) 376 262)) := snd_icmp_gt dL_law_259 (by decide)
theorem s47_262 {l : Launch} {G : KG} : kOpL l G 262 (.inl (g_push 0 263)) := snd_iconst dL_law_262 rfl
theorem s47_263 {l : Launch} {G : KG} : kOpL l G 263 (.inl (g_ist 12 265)) := snd_istore dL_law_263
theorem s47_265 {l : Launch} {G : KG} : kOpL l G 265 (.inl (g_ild 12 267)) := snd_iload dL_law_265
theorem s47_267 {l : Launch} {G : KG} : kOpL l G 267 (.inl (g_push 10 269)) := snd_bipush dL_law_267 rfl
theorem s47_269 {l : Launch} {G : KG} : kOpL l G 269 (.inl (g_br2 (fun x y => decide (y ≤ x)) 319 272)) := snd_icmp_ge dL_law_269 (by decide)
theorem s47_272 {l : Launch} {G : KG} : kOpL l G 272 (.inl (g_ald 1 273)) := snd_aload_n dL_law_272 rfl
theorem s47_273 {l : Launch} {G : KG} : kOpL l G 273 (.inl (g_ild 11 275)) := snd_iload dL_law_273
theorem s47_275 {l : Launch} {G : KG} : kOpL l G 275 (.inl (g_ild 12 277)) := snd_iload dL_law_275
theorem s47_277 {l : Launch} {G : KG} : kOpL l G 277 (.inr (.inl (28, 3, 280))) := ⟨snd_callV (c := 3) dL_law_277 rfl mok_28 rfl rfl rfl rfl (by decide) rfl wM_5_34 wN_X3_on wL_X3_on wI_3 (by decide) ⟨rfl, rfl⟩, rfl, mok_28, by decide⟩
theorem s47_280 {l : Launch} {G : KG} : kOpL l G 280 (.inl (g_ist 13 282)) := snd_istore dL_law_280
theorem s47_282 {l : Launch} {G : KG} : kOpL l G 282 (.inl (g_ild 13 284)) := snd_iload dL_law_282
theorem s47_284 {l : Launch} {G : KG} : kOpL l G 284 (.inl (g_br1 (fun x => decide (x < 0)) 311 287)) := snd_if_lt dL_law_284 (by decide)
theorem s47_287 {l : Launch} {G : KG} : kOpL l G 287 (.inl (g_ild 11 289)) := snd_iload dL_law_287
theorem s47_289 {l : Launch} {G : KG} : kOpL l G 289 (.inl (g_br1 (fun x => decide (x ≤ 0)) 313 292)) := snd_if_le dL_law_289 (by decide)
theorem s47_292 {l : Launch} {G : KG} : kOpL l G 292 (.inl (g_ild 12 294)) := snd_iload dL_law_292
theorem s47_294 {l : Launch} {G : KG} : kOpL l G 294 (.inl (g_ald 1 295)) := snd_aload_n dL_law_294 rfl
theorem s47_295 {l : Launch} {G : KG} : kOpL l G 295 (.inl (g_ild 11 297)) := snd_iload dL_law_295
theorem s47_297 {l : Launch} {G : KG} : kOpL l G 297 (.inl (g_push 1 298)) := snd_iconst dL_law_297 rfl
theorem s47_298 {l : Launch} {G : KG} : kOpL l G 298 (.inl (g_iop (fun x y => x - y) 299)) := snd_isub dL_law_298
theorem s47_299 {l : Launch} {G : KG} : kOpL l G 299 (.inl (g_push 0 300)) := snd_iconst dL_law_299 rfl
theorem s47_300 {l : Launch} {G : KG} : kOpL l G 300 (.inr (.inl (27, 3, 303))) := ⟨snd_callV (c := 3) dL_law_300 rfl mok_27 rfl rfl rfl rfl (by decide) rfl wM_5_28 wN_X3_tray wL_X3_tray wI_3 (by decide) ⟨rfl, rfl⟩, rfl, mok_27, by decide⟩
theorem s47_303 {l : Launch} {G : KG} : kOpL l G 303 (.inl (g_br2 (fun x y => decide (x < y)) 313 306)) := snd_icmp_lt dL_law_303 (by decide)
theorem s47_306 {l : Launch} {G : KG} : kOpL l G 306 (.inl (g_ild 13 308)) := snd_iload dL_law_306
theorem s47_308 {l : Launch} {G : KG} : kOpL l G 308 (.inl (g_br1 (fun x => decide (x ≤ 0)) 313 311)) := snd_if_le dL_law_308 (by decide)
theorem s47_311 {l : Launch} {G : KG} : kOpL l G 311 (.inl (g_push 0 312)) := snd_iconst dL_law_311 rfl
theorem s47_313 {l : Launch} {G : KG} : kOpL l G 313 (.inl (g_iinc 12 1 316)) := snd_iinc dL_law_313 rfl
theorem s47_316 {l : Launch} {G : KG} : kOpL l G 316 (.inl (g_goto 265)) := snd_goto dL_law_316 (by decide)
theorem s47_319 {l : Launch} {G : KG} : kOpL l G 319 (.inl (g_ild 11 321)) := snd_iload dL_law_319
theorem s47_321 {l : Launch} {G : KG} : kOpL l G 321 (.inl (g_br1 (fun x => decide (x ≤ 0)) 343 324)) := snd_if_le dL_law_321 (by decide)
theorem s47_324 {l : Launch} {G : KG} : kOpL l G 324 (.inl (g_ald 1 325)) := snd_aload_n dL_law_324 rfl
theorem s47_325 {l : Launch} {G : KG} : kOpL l G 325 (.inl (g_ild 11 327)) := snd_iload dL_law_325
theorem s47_327 {l : Launch} {G : KG} : kOpL l G 327 (.inl (g_push 0 328)) := snd_iconst dL_law_327 rfl
theorem s47_328 {l : Launch} {G : KG} : kOpL l G 328 (.inr (.inl (27, 3, 331))) := ⟨snd_callV (c := 3) dL_law_328 rfl mok_27 rfl rfl rfl rfl (by decide) rfl wM_5_28 wN_X3_tray wL_X3_tray wI_3 (by decide) ⟨rfl, rfl⟩, rfl, mok_27, by decide⟩
theorem s47_331 {l : Launch} {G : KG} : kOpL l G 331 (.inl (g_ald 1 332)) := snd_aload_n dL_law_331 rfl
theorem s47_332 {l : Launch} {G : KG} : kOpL l G 332 (.inl (g_ild 11 334)) := snd_iload dL_law_332
theorem s47_334 {l : Launch} {G : KG} : kOpL l G 334 (.inl (g_push 1 335)) := snd_iconst dL_law_334 rfl
theorem s47_335 {l : Launch} {G : KG} : kOpL l G 335 (.inl (g_iop (fun x y => x - y) 336)) := snd_isub dL_law_335
theorem s47_336 {l : Launch} {G : KG} : kOpL l G 336 (.inl (g_push 0 337)) := snd_iconst dL_law_336 rfl
theorem s47_337 {l : Launch} {G : KG} : kOpL l G 337 (.inr (.inl (27, 3, 340))) := ⟨snd_callV (c := 3) dL_law_337 rfl mok_27 rfl rfl rfl rfl (by decide) rfl wM_5_28 wN_X3_tray wL_X3_tray wI_3 (by decide) ⟨rfl, rfl⟩, rfl, mok_27, by decide⟩
theorem s47_340 {l : Launch} {G : KG} : kOpL l G 340 (.inl (g_br2 (fun x y => decide (y ≤ x)) 368 343)) := snd_icmp_ge dL_law_340 (by decide)
theorem s47_343 {l : Launch} {G : KG} : kOpL l G 343 (.inl (g_ald 1 344)) := snd_aload_n dL_law_343 rfl
theorem s47_344 {l : Launch} {G : KG} : kOpL l G 344 (.inl (g_ild 11 346)) := snd_iload dL_law_344
theorem s47_346 {l : Launch} {G : KG} : kOpL l G 346 (.inl (g_push 4 347)) := snd_iconst dL_law_346 rfl
theorem s47_347 {l : Launch} {G : KG} : kOpL l G 347 (.inr (.inl (27, 3, 350))) := ⟨snd_callV (c := 3) dL_law_347 rfl mok_27 rfl rfl rfl rfl (by decide) rfl wM_5_28 wN_X3_tray wL_X3_tray wI_3 (by decide) ⟨rfl, rfl⟩, rfl, mok_27, by decide⟩
theorem s47_350 {l : Launch} {G : KG} : kOpL l G 350 (.inl (g_push 100 352)) := snd_bipush dL_law_350 rfl
theorem s47_352 {l : Launch} {G : KG} : kOpL l G 352 (.inl (g_br2 (fun x y => decide (x < y)) 368 355)) := snd_icmp_lt dL_law_352 (by decide)
theorem s47_355 {l : Launch} {G : KG} : kOpL l G 355 (.inl (g_ald 1 356)) := snd_aload_n dL_law_355 rfl
theorem s47_356 {l : Launch} {G : KG} : kOpL l G 356 (.inl (g_ild 11 358)) := snd_iload dL_law_356
theorem s47_358 {l : Launch} {G : KG} : kOpL l G 358 (.inl (g_push 4 359)) := snd_iconst dL_law_358 rfl
theorem s47_359 {l : Launch} {G : KG} : kOpL l G 359 (.inr (.inl (27, 3, 362))) := ⟨snd_callV (c := 3) dL_law_359 rfl mok_27 rfl rfl rfl rfl (by decide) rfl wM_5_28 wN_X3_tray wL_X3_tray wI_3 (by decide) ⟨rfl, rfl⟩, rfl, mok_27, by decide⟩
theorem s47_362 {l : Launch} {G : KG} : kOpL l G 362 (.inl (g_push 1000 365)) := snd_sipush dL_law_362 rfl
theorem s47_365 {l : Launch} {G : KG} : kOpL l G 365 (.inl (g_br2 (fun x y => decide (x ≤ y)) 370 368)) := snd_icmp_le dL_law_365 (by decide)
theorem s47_368 {l : Launch} {G : KG} : kOpL l G 368 (.inl (g_push 0 369)) := snd_iconst dL_law_368 rfl
theorem s47_370 {l : Launch} {G : KG} : kOpL l G 370 (.inl (g_iinc 11 1 373)) := snd_iinc dL_law_370 rfl
theorem s47_373 {l : Launch} {G : KG} : kOpL l G 373 (.inl (g_goto 252)) := snd_goto dL_law_373 (by decide)
theorem s47_376 {l : Launch} {G : KG} : kOpL l G 376 (.inl (g_ald 1 377)) := snd_aload_n dL_law_376 rfl
theorem s47_377 {l : Launch} {G : KG} : kOpL l G 377 (.inl (g_push 5 378)) := snd_iconst dL_law_377 rfl
theorem s47_378 {l : Launch} {G : KG} : kOpL l G 378 (.inr (.inl (26, 2, 381))) := ⟨snd_callV (c := 3) dL_law_378 rfl mok_26 rfl rfl rfl rfl (by decide) rfl wM_5_12 wN_X3_count wL_X3_count wI_3 (by decide) ⟨rfl, rfl⟩, rfl, mok_26, by decide⟩
theorem s47_381 {l : Launch} {G : KG} : kOpL l G 381 (.inl (g_push 1 382)) := snd_iconst dL_law_381 rfl
theorem s47_382 {l : Launch} {G : KG} : kOpL l G 382 (.inl (g_br2 (fun x y => decide (¬ x = y)) 410 385)) := snd_icmp_ne dL_law_382 (by decide)
theorem s47_385 {l : Launch} {G : KG} : kOpL l G 385 (.inl (g_ald 1 386)) := snd_aload_n dL_law_385 rfl
theorem s47_386 {l : Launch} {G : KG} : kOpL l G 386 (.inl (g_push 9999 389)) := snd_sipush dL_law_386 rfl
theorem s47_389 {l : Launch} {G : KG} : kOpL l G 389 (.inr (.inl (34, 2, 392))) := ⟨snd_callV (c := 3) dL_law_389 rfl mok_34 rfl rfl rfl rfl (by decide) rfl wM_5_95 wN_X3_minutesTo wL_X3_minutesTo wI_3 (by decide) ⟨rfl, rfl⟩, rfl, mok_34, by decide⟩
theorem s47_392 {l : Launch} {G : KG} : kOpL l G 392 (.inl (g_push 1 393)) := snd_iconst dL_law_392 rfl
theorem s47_393 {l : Launch} {G : KG} : kOpL l G 393 (.inl (g_br2 (fun x y => decide (y ≤ x)) 410 396)) := snd_icmp_ge dL_law_393 (by decide)
theorem s47_396 {l : Launch} {G : KG} : kOpL l G 396 (.inl (g_ald 1 397)) := snd_aload_n dL_law_396 rfl
theorem s47_397 {l : Launch} {G : KG} : kOpL l G 397 (.inl (g_push 9999 400)) := snd_sipush dL_law_397 rfl
theorem s47_400 {l : Launch} {G : KG} : kOpL l G 400 (.inr (.inl (34, 2, 403))) := ⟨snd_callV (c := 3) dL_law_400 rfl mok_34 rfl rfl rfl rfl (by decide) rfl wM_5_95 wN_X3_minutesTo wL_X3_minutesTo wI_3 (by decide) ⟨rfl, rfl⟩, rfl, mok_34, by decide⟩
theorem s47_403 {l : Launch} {G : KG} : kOpL l G 403 (.inl (g_push (-9) 405)) := snd_bipush dL_law_403 rfl
theorem s47_405 {l : Launch} {G : KG} : kOpL l G 405 (.inl (g_br2 (fun x y => decide (x = y)) 410 408)) := snd_icmp_eq dL_law_405 (by decide)
theorem s47_408 {l : Launch} {G : KG} : kOpL l G 408 (.inl (g_push 0 409)) := snd_iconst dL_law_408 rfl
theorem s47_416 {l : Launch} {G : KG} : kOpL l G 416 (.inl (g_ald 1 417)) := snd_aload_n dL_law_416 rfl
theorem s47_417 {l : Launch} {G : KG} : kOpL l G 417 (.inr (.inl (35, 1, 420))) := ⟨snd_callV (c := 3) dL_law_417 rfl mok_35 rfl rfl rfl rfl (by decide) rfl wM_5_92 wN_X3_undo wL_X3_undo wI_3 (by decide) ⟨rfl, rfl⟩, rfl, mok_35, by decide⟩
theorem s47_420 {l : Launch} {G : KG} : kOpL l G 420 (.inl (g_ild 2 421)) := snd_iload_n dL_law_420 rfl
theorem s47_421 {l : Launch} {G : KG} : kOpL l G 421 (.inl (g_br1 (fun x => decide (¬ x = 0)) 429 424)) := snd_if_ne dL_law_421 (by decide)
theorem s47_424 {l : Launch} {G : KG} : kOpL l G 424 (.inl (g_push (-2) 426)) := snd_bipush dL_law_424 rfl
theorem s47_426 {l : Launch} {G : KG} : kOpL l G 426 (.inl (g_goto 432)) := snd_goto dL_law_426 (by decide)
theorem s47_429 {l : Launch} {G : KG} : kOpL l G 429 (.inl (g_ild 2 430)) := snd_iload_n dL_law_429 rfl
theorem s47_430 {l : Launch} {G : KG} : kOpL l G 430 (.inl (g_push 1 431)) := snd_iconst dL_law_430 rfl
theorem s47_431 {l : Launch} {G : KG} : kOpL l G 431 (.inl (g_iop (fun x y => x - y) 432)) := snd_isub dL_law_431
theorem s47_432 {l : Launch} {G : KG} : kOpL l G 432 (.inl (g_br2 (fun x y => decide (¬ x = y)) 439 435)) := snd_icmp_ne dL_law_432 (by decide)
theorem s47_435 {l : Launch} {G : KG} : kOpL l G 435 (.inl (g_push 1 436)) := snd_iconst dL_law_435 rfl
theorem s47_436 {l : Launch} {G : KG} : kOpL l G 436 (.inl (g_goto 440)) := snd_goto dL_law_436 (by decide)
theorem s47_439 {l : Launch} {G : KG} : kOpL l G 439 (.inl (g_push 0 440)) := snd_iconst dL_law_439 rfl
theorem s47_410 {l : Launch} {G : KG} : kOpL l G 410 (.inr (.inr 4)) := Or.inl ⟨rfl, rfl⟩
theorem s47_440 {l : Launch} {G : KG} : kOpL l G 440 (.inr (.inr 5)) := Or.inr ⟨rfl, rfl⟩
