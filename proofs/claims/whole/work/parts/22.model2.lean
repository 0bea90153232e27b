/-! the reference's minute, sums, saved states -/
theorem y_minute {M : KMem} {p : NR} {T : Nat} {Q : Option Value → KMem → Prop} (hR : RowM M p) (hI : MInv p T)
    (hQ : ∀ M', RowM M' (minN p) → OffY M M' → Q (some (.int (nI (minV p)))) M') : kE 100 0 [.ref 166, .null, .null, .null, .null, .null, .null, .null] [] M Q := by
  obtain ⟨n, hn⟩ : ∃ n, n = p 24 := ⟨_, rfl⟩
  have hn6 : n ≤ 6 := by rw [hn]; exact hI.2.2.2.1
  have inner : ∀ (q : NR) (t A op F : Nat) (Q' : Option Value → KMem → Prop), t < 6 → A ≤ 9 → op ≤ 1000 → totN q ≤ 99990 → ∀ M0, (∀ M1 v7, kNL v7 = true → RowM M1 (dropN q (53 + 12 * t) A op A) → OffY M0 M1 → kE 100 113 [.ref 166, .int (nI (F + dropV q (53 + 12 * t) A op A)), .int (nI t), .int (nI (53 + 12 * t)), .int (nI A), .int (nI op), .int (nI A), v7] [] M1 Q') →
      ∀ d j, j + d = A → ∀ M1 v7, kNL v7 = true → RowM M1 (dropN q (53 + 12 * t) A op j) → OffY M0 M1 → kE 100 43 [.ref 166, .int (nI (F + dropV q (53 + 12 * t) A op j)), .int (nI t), .int (nI (53 + 12 * t)), .int (nI A), .int (nI op), .int (nI j), v7] [] M1 Q' := by
    intro q t A op F Q' ht hA hop htot M0 hx d
    induction d with
    | zero =>
      intro j hj M1 v7 h7 h hO
      have : j = A := by omega
      subst this
      rw [e100_43]
      simp only [e100_0, e100_1, e100_2, e100_3, e100_6, e100_8, e100_9, e100_10, e100_11, e100_12, e100_13, e100_16, e100_17, e100_18, e100_21, e100_22, e100_23, e100_26, e100_28, e100_29, e100_30, e100_31, e100_33, e100_34, e100_35, e100_38, e100_40, e100_41, e100_45, e100_47, e100_50, e100_51, e100_54, e100_55, e100_57, e100_58, e100_59, e100_61, e100_63, e100_65, e100_66, e100_69, e100_71, e100_72, e100_75, e100_76, e100_78, e100_79, e100_80, e100_81, e100_83, e100_84, e100_85, e100_86, e100_89, e100_90, e100_92, e100_93, e100_95, e100_96, e100_97, e100_98, e100_100, e100_101, e100_102, e100_103, e100_105, e100_106, e100_107, e100_110, e100_114, e100_117, e100_118, e100_120, e100_121, e100_122, e100_123, e100_126, e100_128, e100_129, e100_130, e100_133, e100_134, e100_136, e100_137, e100_140, e100_141, e100_143, e100_144, e100_145, e100_146, e100_148, e100_149, e100_150, e100_151, e100_154, e100_155, e100_157, e100_158, e100_159, e100_160, e100_162, e100_163, e100_164, e100_167, e100_170, e100_171, e100_172, e100_175, e100_177, e100_178, e100_181, e100_182, e100_183, e100_186, e100_187, e100_188, e100_189, e100_190, e100_193, e100_194, e100_195, e100_196, e100_199, e100_201, e100_202, e100_203, e100_206, e100_207, e100_208, e100_209, e100_210, e100_213, e100_215, e100_216, e100_217, e100_218, e100_219, e100_220, e100_221, e100_224, e100_226, e100_227, e100_228, e100_229, eq_self, kcat_nil, kcat_int, kcat_long, kcat_ref, kNL_int, kNL_ref, kNL_null, Option.toList_some, Option.toList_none, List.nil_append, List.cons_append, Nat.reduceAdd, Nat.reduceLeDiff, Nat.reduceEqDiff, true_and, and_true, true_or, or_true, false_or, or_false, ite_true, ite_false, nI_le (Nat.le_refl j) (show j < 2 ^ 31 by omega)]
      exact hx M1 v7 h7 h hO
    | succ d ih =>
      intro j hj M1 v7 h7 h hO
      have nle : ¬ nI A ≤ nI j := nI_ge (by omega) (by omega)
      have htq : totN (dropN q (53 + 12 * t) A op j) ≤ 99990 := by rw [drop_tot hop (by omega) (by omega) j (by omega)]; exact htot
      have ih := ih (j + 1) (by omega)
      rw [dropN, dropV] at ih
      generalize dropN q (53 + 12 * t) A op j = q1 at h htq ih
      generalize dropV q (53 + 12 * t) A op j = V at ih ⊢
      have b1 := tot_ge (p := q1) (i := 53 + 12 * t + j) (by omega) (by omega)
      have hfl := fall_le (m := q1 (53 + 12 * t + j)) (d := A - j) hop
      rw [e100_43]
      simp only [e100_0, e100_1, e100_2, e100_3, e100_6, e100_8, e100_9, e100_10, e100_11, e100_12, e100_13, e100_16, e100_17, e100_18, e100_21, e100_22, e100_23, e100_26, e100_28, e100_29, e100_30, e100_31, e100_33, e100_34, e100_35, e100_38, e100_40, e100_41, e100_45, e100_47, e100_50, e100_51, e100_54, e100_55, e100_57, e100_58, e100_59, e100_61, e100_63, e100_65, e100_66, e100_69, e100_71, e100_72, e100_75, e100_76, e100_78, e100_79, e100_80, e100_81, e100_83, e100_84, e100_85, e100_86, e100_89, e100_90, e100_92, e100_93, e100_95, e100_96, e100_97, e100_98, e100_100, e100_101, e100_102, e100_103, e100_105, e100_106, e100_107, e100_110, e100_113, e100_114, e100_117, e100_118, e100_120, e100_121, e100_122, e100_123, e100_126, e100_128, e100_129, e100_130, e100_133, e100_134, e100_136, e100_137, e100_140, e100_141, e100_143, e100_144, e100_145, e100_146, e100_148, e100_149, e100_150, e100_151, e100_154, e100_155, e100_157, e100_158, e100_159, e100_160, e100_162, e100_163, e100_164, e100_167, e100_170, e100_171, e100_172, e100_175, e100_177, e100_178, e100_181, e100_182, e100_183, e100_186, e100_187, e100_188, e100_189, e100_190, e100_193, e100_194, e100_195, e100_196, e100_199, e100_201, e100_202, e100_203, e100_206, e100_207, e100_208, e100_209, e100_210, e100_213, e100_215, e100_216, e100_217, e100_218, e100_219, e100_220, e100_221, e100_224, e100_226, e100_227, e100_228, e100_229, eq_self, kcat_nil, kcat_int, kcat_long, kcat_ref, kNL_int, kNL_ref, kNL_null, Option.toList_some, Option.toList_none, List.nil_append, List.cons_append, Nat.reduceAdd, Nat.reduceLeDiff, Nat.reduceEqDiff, true_and, and_true, true_or, or_true, false_or, or_false, ite_true, ite_false, nle, my1, my2, my7, my12, nI_add, li12, kin_nI (show 53 + 12 * t + j < 137 by omega) (by decide), clN (show 53 + 12 * t + j < 2 ^ 31 by omega), h (53 + 12 * t + j) (by omega), pk_sub (show j ≤ A by omega), y_falling (show q1 (53 + 12 * t + j) < 2 ^ 31 by omega) hop (show A - j < 2 ^ 31 by omega), pk_sub hfl, kin_nI (show 53 + 12 * t + 12 + j < 137 by omega) (by decide), clN (show 53 + 12 * t + 12 + j < 2 ^ 31 by omega), mset_ne (show ¬ (167 = 167 ∧ 53 + 12 * t + 12 + j = 53 + 12 * t + j) by omega), h (53 + 12 * t + 12 + j) (by omega), nI_add1]
      rw [Nat.add_assoc]
      exact ih _ _ rfl ((h.set _ _).set _ _) ((hO.set _ _).set _ _)
  have loop : ∀ k, k ≤ n → ∀ M1 v3 v4 v5 v6 v7, kNL v3 = true → kNL v4 = true → kNL v5 = true → kNL v6 = true → kNL v7 = true → RowM M1 (shN p n (n - k)) → OffY M M1 → kE 100 12 [.ref 166, .int (nI (shV p n (n - k))), .int (nI k - 1), v3, v4, v5, v6, v7] [] M1 Q := by
    intro k
    induction k with
    | zero =>
      intro _ M1 v3 v4 v5 v6 v7 h3 h4 h5 h6 h7 h hO
      have hM := sh_MInv hI hn6 n (Nat.le_refl _)
      rw [Nat.sub_zero] at h ⊢
      have e24 : M1 167 24 = nI n := by rw [h 24 (by decide), sh_low (by decide), hn]
      have c0 : (nI 0 - 1 : Int32) < 0 := by decide
      have hk : ¬ (1000 : Int32) = 0 := by decide
      have hb := tot_ge (p := shN p n n) (i := 53 + 12 * n) (by omega) (by omega)
      have hb2 : totN (shN p n n) ≤ 99990 := Nat.le_trans hM.2.2.2.2.2.2.2 hM.2.2.2.2.2.2.1
      have h22 : shN p n n 22 ≤ 100 := hM.2.2.1
      have hmul : shN p n n (53 + 12 * n) * shN p n n 22 ≤ 99990 * 100 := Nat.mul_le_mul (by omega) h22
      have hdl : shN p n n (53 + 12 * n) * shN p n n 22 / 1000 ≤ shN p n n (53 + 12 * n) := mul_div_le (by omega)
      have ed : nI (shN p n n (53 + 12 * n) * shN p n n 22) / 1000 = nI (shN p n n (53 + 12 * n) * shN p n n 22 / 1000) := by rw [li1000, pk_div (by omega) (by decide) (by decide)]
      rw [e100_12]
      simp only [e100_0, e100_1, e100_2, e100_3, e100_6, e100_8, e100_9, e100_10, e100_11, e100_13, e100_16, e100_17, e100_18, e100_21, e100_22, e100_23, e100_26, e100_28, e100_29, e100_30, e100_31, e100_33, e100_34, e100_35, e100_38, e100_40, e100_41, e100_43, e100_45, e100_47, e100_50, e100_51, e100_54, e100_55, e100_57, e100_58, e100_59, e100_61, e100_63, e100_65, e100_66, e100_69, e100_71, e100_72, e100_75, e100_76, e100_78, e100_79, e100_80, e100_81, e100_83, e100_84, e100_85, e100_86, e100_89, e100_90, e100_92, e100_93, e100_95, e100_96, e100_97, e100_98, e100_100, e100_101, e100_102, e100_103, e100_105, e100_106, e100_107, e100_110, e100_113, e100_114, e100_117, e100_118, e100_120, e100_121, e100_122, e100_123, e100_126, e100_128, e100_129, e100_130, e100_133, e100_134, e100_136, e100_137, e100_140, e100_141, e100_143, e100_144, e100_145, e100_146, e100_148, e100_149, e100_150, e100_151, e100_154, e100_155, e100_157, e100_158, e100_159, e100_160, e100_162, e100_163, e100_164, e100_167, e100_170, e100_171, e100_172, e100_175, e100_177, e100_178, e100_181, e100_182, e100_183, e100_186, e100_187, e100_188, e100_189, e100_190, e100_193, e100_194, e100_195, e100_196, e100_199, e100_201, e100_202, e100_203, e100_206, e100_207, e100_208, e100_209, e100_210, e100_213, e100_215, e100_216, e100_217, e100_218, e100_219, e100_220, e100_221, e100_224, e100_226, e100_227, e100_228, e100_229, eq_self, kcat_nil, kcat_int, kcat_long, kcat_ref, kNL_int, kNL_ref, kNL_null, Option.toList_some, Option.toList_none, List.nil_append, List.cons_append, Nat.reduceAdd, Nat.reduceLeDiff, Nat.reduceEqDiff, true_and, and_true, true_or, or_true, false_or, or_false, ite_true, ite_false, c0, my1, my2, my7, my12, li24, li22, li51, li52, kin_nI (show 24 < 137 by decide) (by decide), clN (show 24 < 2 ^ 31 by decide), kin_nI (show 22 < 137 by decide) (by decide), clN (show 22 < 2 ^ 31 by decide), kin_nI (show 51 < 137 by decide) (by decide), clN (show 51 < 2 ^ 31 by decide), kin_nI (show 52 < 137 by decide) (by decide), clN (show 52 < 2 ^ 31 by decide), e24, y_at, kin_nI (show 53 + 12 * n < 137 by omega) (by decide), clN (show 53 + 12 * n < 2 ^ 31 by omega), h (53 + 12 * n) (by omega), h 22 (by decide), pk_mul, ed, hk, not_false_eq_true, pk_sub hdl, mset_ne (show ¬ (167 = 167 ∧ 51 = 53 + 12 * n) by omega), h 51 (by decide), nI_add1]
      have hV : minV p = shV p n n := by unfold minV; rw [← hn]
      rw [← hV]
      refine hQ _ ((((h.set _ _).set _ _).set _ _).congr (fun i _ => ?_)) (((hO.set _ _).set _ _).set _ _)
      unfold minN panN
      rw [← hn]
    | succ k ih =>
      intro hk M1 v3 v4 v5 v6 v7 h3 h4 h5 h6 h7 h hO
      obtain ⟨j, hj⟩ : ∃ j, j = n - (k + 1) := ⟨_, rfl⟩
      rw [← hj] at h ⊢
      have hM := sh_MInv hI hn6 j (by omega)
      have hqn : shN p n j 24 = p 24 := sh_low (by decide) j
      have hjk : n - 1 - j = k := by omega
      have hnk : n - k = j + 1 := by omega
      have ih := ih (by omega)
      rw [hnk, shN, shV, hjk] at ih
      generalize shN p n j = q at h hM ih hqn
      generalize shV p n j = f at ih ⊢
      have hk6 : k < 6 := by omega
      have hap9 : q (25 + k) ≤ 9 := hM.2.2.2.2.2.1 k hk6
      have hq24 : q 24 = n := by rw [hqn, hn]
      have htot : totN q ≤ 99990 := Nat.le_trans hM.2.2.2.2.2.2.2 hM.2.2.2.2.2.2.1
      have hst := tot_ge (p := q) (i := 53 + 12 * k + 10) (by omega) (by omega)
      have ek : nI (k + 1) - 1 = nI k := by rw [show (1 : Int32) = nI 1 from rfl, pk_sub (by omega)]; rfl
      have ek2 : nI k + (-1) = nI k - 1 := (Int32.sub_eq_add_neg _ _).symm
      have nneg : ¬ nI k < 0 := nI_pos (by omega)
      have ho : ∀ Q', kE 95 0 [.ref 166, .int (nI k), .null] [] M1 Q' = Q' (some (.int (nI (openN q k)))) M1 := fun Q' => by
        rw [y_openness h (by omega) (by omega) hM.1 (by omega), if_neg (by omega)]
      rw [e100_12]
      simp only [e100_0, e100_1, e100_2, e100_3, e100_6, e100_8, e100_9, e100_10, e100_11, e100_13, e100_16, e100_17, e100_18, e100_21, e100_22, e100_23, e100_26, e100_28, e100_29, e100_30, e100_31, e100_33, e100_34, e100_35, e100_38, e100_40, e100_41, e100_45, e100_47, e100_50, e100_51, e100_54, e100_55, e100_57, e100_58, e100_59, e100_61, e100_63, e100_65, e100_66, e100_69, e100_71, e100_72, e100_75, e100_76, e100_78, e100_79, e100_80, e100_81, e100_83, e100_84, e100_85, e100_86, e100_89, e100_90, e100_92, e100_93, e100_95, e100_96, e100_97, e100_98, e100_100, e100_101, e100_102, e100_103, e100_105, e100_106, e100_107, e100_110, e100_113, e100_114, e100_117, e100_118, e100_120, e100_121, e100_122, e100_123, e100_126, e100_128, e100_129, e100_130, e100_133, e100_134, e100_136, e100_137, e100_140, e100_141, e100_143, e100_144, e100_145, e100_146, e100_148, e100_149, e100_150, e100_151, e100_154, e100_155, e100_157, e100_158, e100_159, e100_160, e100_162, e100_163, e100_164, e100_167, e100_170, e100_171, e100_172, e100_175, e100_177, e100_178, e100_181, e100_182, e100_183, e100_186, e100_187, e100_188, e100_189, e100_190, e100_193, e100_194, e100_195, e100_196, e100_199, e100_201, e100_202, e100_203, e100_206, e100_207, e100_208, e100_209, e100_210, e100_213, e100_215, e100_216, e100_217, e100_218, e100_219, e100_220, e100_221, e100_224, e100_226, e100_227, e100_228, e100_229, eq_self, kcat_nil, kcat_int, kcat_long, kcat_ref, kNL_int, kNL_ref, kNL_null, Option.toList_some, Option.toList_none, List.nil_append, List.cons_append, Nat.reduceAdd, Nat.reduceLeDiff, Nat.reduceEqDiff, true_and, and_true, true_or, or_true, false_or, or_false, ite_true, ite_false, ek, nneg, y_at, my1, my2, my7, my12, li25, nI_add, kin_nI (show 25 + k < 137 by omega) (by decide), clN (show 25 + k < 2 ^ 31 by omega), h (25 + k) (by omega), ho, h3, h4, h5, h6, h7]
      have hV : trV q k = dropV q (53 + 12 * k) (q (25 + k)) (openN q k) (q (25 + k)) := rfl
      have hN : trN q k = blindN (dropN q (53 + 12 * k) (q (25 + k)) (openN q k) (q (25 + k))) (53 + 12 * k) (q (25 + k)) := rfl
      rw [hV, hN] at ih
      refine inner q k (q (25 + k)) (openN q k) f Q hk6 hap9 open_le htot M1 (fun M2 w7 hw7 d1 d3 => ?_) (q (25 + k)) 0 (by omega) M1 v7 h7 h OffY.rfl'
      have hq1 : ∀ i, i < 53 → dropN q (53 + 12 * k) (q (25 + k)) (openN q k) (q (25 + k)) i = q i := fun i hi => drop_low (by omega) _
      have ht1 : totN (dropN q (53 + 12 * k) (q (25 + k)) (openN q k) (q (25 + k))) ≤ 99990 := by rw [drop_tot open_le (by omega) (by omega) _ (by omega)]; exact htot
      generalize dropV q (53 + 12 * k) (q (25 + k)) (openN q k) (q (25 + k)) = V at ih ⊢
      generalize dropN q (53 + 12 * k) (q (25 + k)) (openN q k) (q (25 + k)) = q1 at ih d1 hq1 ht1
      have hb1 := tot_ge (p := q1) (i := 53 + 12 * k + q (25 + k)) (by omega) (by omega)
      have hB : q 21 ≤ 200 := hM.2.1
      have hmul : q1 (53 + 12 * k + q (25 + k)) * q 21 ≤ 99990 * 200 := Nat.mul_le_mul (by omega) hB
      have hdl : q1 (53 + 12 * k + q (25 + k)) * q 21 / 1000 ≤ q1 (53 + 12 * k + q (25 + k)) := mul_div_le (by omega)
      have e21 : M2 167 21 = nI (q 21) := by rw [d1 21 (by decide), hq1 21 (by decide)]
      have ed : nI (q1 (53 + 12 * k + q (25 + k)) * q 21) / 1000 = nI (q1 (53 + 12 * k + q (25 + k)) * q 21 / 1000) := by rw [li1000, pk_div (by omega) (by decide) (by decide)]
      have hkk : ¬ (1000 : Int32) = 0 := by decide
      simp only [e100_0, e100_1, e100_2, e100_3, e100_6, e100_8, e100_9, e100_10, e100_11, e100_13, e100_16, e100_17, e100_18, e100_21, e100_22, e100_23, e100_26, e100_28, e100_29, e100_30, e100_31, e100_33, e100_34, e100_35, e100_38, e100_40, e100_41, e100_43, e100_45, e100_47, e100_50, e100_51, e100_54, e100_55, e100_57, e100_58, e100_59, e100_61, e100_63, e100_65, e100_66, e100_69, e100_71, e100_72, e100_75, e100_76, e100_78, e100_79, e100_80, e100_81, e100_83, e100_84, e100_85, e100_86, e100_89, e100_90, e100_92, e100_93, e100_95, e100_96, e100_97, e100_98, e100_100, e100_101, e100_102, e100_103, e100_105, e100_106, e100_107, e100_110, e100_113, e100_114, e100_117, e100_118, e100_120, e100_121, e100_122, e100_123, e100_126, e100_128, e100_129, e100_130, e100_133, e100_134, e100_136, e100_137, e100_140, e100_141, e100_143, e100_144, e100_145, e100_146, e100_148, e100_149, e100_150, e100_151, e100_154, e100_155, e100_157, e100_158, e100_159, e100_160, e100_162, e100_163, e100_164, e100_167, e100_170, e100_171, e100_172, e100_175, e100_177, e100_178, e100_181, e100_182, e100_183, e100_186, e100_187, e100_188, e100_189, e100_190, e100_193, e100_194, e100_195, e100_196, e100_199, e100_201, e100_202, e100_203, e100_206, e100_207, e100_208, e100_209, e100_210, e100_213, e100_215, e100_216, e100_217, e100_218, e100_219, e100_220, e100_221, e100_224, e100_226, e100_227, e100_228, e100_229, eq_self, kcat_nil, kcat_int, kcat_long, kcat_ref, kNL_int, kNL_ref, kNL_null, Option.toList_some, Option.toList_none, List.nil_append, List.cons_append, Nat.reduceAdd, Nat.reduceLeDiff, Nat.reduceEqDiff, true_and, and_true, true_or, or_true, false_or, or_false, ite_true, ite_false, my1, my2, my7, my12, li21, li10, nI_add, kin_nI (show 21 < 137 by decide) (by decide), clN (show 21 < 2 ^ 31 by decide), kin_nI (show 53 + 12 * k + q (25 + k) < 137 by omega) (by decide), clN (show 53 + 12 * k + q (25 + k) < 2 ^ 31 by omega), d1 (53 + 12 * k + q (25 + k)) (by omega), e21, pk_mul, ed, hkk, not_false_eq_true, pk_sub hdl, kin_nI (show 53 + 12 * k + 10 < 137 by omega) (by decide), clN (show 53 + 12 * k + 10 < 2 ^ 31 by omega), mset_ne (show ¬ (167 = 167 ∧ 53 + 12 * k + 10 = 53 + 12 * k + q (25 + k)) by omega), d1 (53 + 12 * k + 10) (by omega), ek2]
      refine ih _ _ _ _ _ _ rfl rfl rfl rfl hw7 (((d1.set _ _).set _ _).congr (fun i _ => ?_)) (hO.trans ((d3.set _ _).set _ _))
      unfold blindN
      rw [hq1 21 (by decide)]
  have e24 : M 167 24 = nI n := by rw [hR 24 (by decide), hn]
  simp only [e100_0, e100_1, e100_2, e100_3, e100_6, e100_8, e100_9, e100_10, e100_11, e100_13, e100_16, e100_17, e100_18, e100_21, e100_22, e100_23, e100_26, e100_28, e100_29, e100_30, e100_31, e100_33, e100_34, e100_35, e100_38, e100_40, e100_41, e100_43, e100_45, e100_47, e100_50, e100_51, e100_54, e100_55, e100_57, e100_58, e100_59, e100_61, e100_63, e100_65, e100_66, e100_69, e100_71, e100_72, e100_75, e100_76, e100_78, e100_79, e100_80, e100_81, e100_83, e100_84, e100_85, e100_86, e100_89, e100_90, e100_92, e100_93, e100_95, e100_96, e100_97, e100_98, e100_100, e100_101, e100_102, e100_103, e100_105, e100_106, e100_107, e100_110, e100_113, e100_114, e100_117, e100_118, e100_120, e100_121, e100_122, e100_123, e100_126, e100_128, e100_129, e100_130, e100_133, e100_134, e100_136, e100_137, e100_140, e100_141, e100_143, e100_144, e100_145, e100_146, e100_148, e100_149, e100_150, e100_151, e100_154, e100_155, e100_157, e100_158, e100_159, e100_160, e100_162, e100_163, e100_164, e100_167, e100_170, e100_171, e100_172, e100_175, e100_177, e100_178, e100_181, e100_182, e100_183, e100_186, e100_187, e100_188, e100_189, e100_190, e100_193, e100_194, e100_195, e100_196, e100_199, e100_201, e100_202, e100_203, e100_206, e100_207, e100_208, e100_209, e100_210, e100_213, e100_215, e100_216, e100_217, e100_218, e100_219, e100_220, e100_221, e100_224, e100_226, e100_227, e100_228, e100_229, eq_self, kcat_nil, kcat_int, kcat_long, kcat_ref, kNL_int, kNL_ref, kNL_null, Option.toList_some, Option.toList_none, List.nil_append, List.cons_append, Nat.reduceAdd, Nat.reduceLeDiff, Nat.reduceEqDiff, true_and, and_true, true_or, or_true, false_or, or_false, ite_true, ite_false, my1, my2, my7, my12, li24, kin_nI (show 24 < 137 by decide) (by decide), clN (show 24 < 2 ^ 31 by decide), e24]
  have L := loop n (Nat.le_refl _) M .null .null .null .null .null rfl rfl rfl rfl rfl (by rw [Nat.sub_self]; exact hR) OffY.rfl'
  rw [Nat.sub_self] at L
  exact L
