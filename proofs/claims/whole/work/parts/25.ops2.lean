/-! the reading calls -/
theorem m1_1 : (1 : Int32) = nI 1 := rfl
theorem row24 {M : KMem} {p : NR} (h : RowM M p) : M 167 24 = nI (p 24) := h 24 (by decide)
theorem op_count (x : Int32) : OpOK 42 92 [.int x] := by
  intro S N hN hI
  obtain ⟨v, hv⟩ : ∃ v : Int32, v = if x = 0 then nI (S.1 24) else if x = 1 then nI (S.1 20) else if x = 2 then nI (S.1 21) else if x = 3 then nI (S.1 22) else if x = 4 then nI (S.1 23) else if x = 5 then nI (S.1 49) else if x = 6 then nI (S.1 51) else if x = 7 then nI (S.1 52) else if x = 8 then nI S.2.2.2.1 else if x = 9 then nI S.2.1 else -1 := ⟨_, rfl⟩
  refine ⟨v, S, hI.mono, fun M Q hX hQ => ?_, fun M Q hY hQ => ?_⟩
  · show kE 42 0 [.ref 0, .int x] [] M Q
    have hR := hX.1
    have hq := hQ M hX Fx.rfl'
    have e1 : M 1 5 = nI (S.1 24) := hR.f24
    have e2 : M 1 6 = nI (S.1 20) := hR.f20
    have e3 : M 1 7 = nI (S.1 21) := hR.f21
    have e4 : M 1 8 = nI (S.1 22) := hR.f22
    have e5 : M 1 9 = nI (S.1 23) := hR.f23
    have e6 : M 1 10 = nI (S.1 49) := hR.f49
    have e7 : M 1 12 = nI (S.1 51) := hR.f51
    have e8 : M 1 13 = nI (S.1 52) := hR.f52
    have e9 : M 162 3 = nI S.2.2.2.1 := hX.2.2.2.2.1
    have e10 : M 0 5 = nI S.2.1 := hX.2.2.1
    have h49 := hI.1.f49
    have z : (nI (S.1 49) = 0) ↔ S.1 49 = 0 := nI_eq_iff (b := 0) (by omega) (by decide)
    subst hv
    simp only [e42_0, e42_1, e42_56, e42_57, e42_60, e42_63, e42_64, e42_65, e42_68, e42_71, e42_72, e42_73, e42_76, e42_79, e42_80, e42_81, e42_84, e42_87, e42_88, e42_89, e42_92, e42_95, e42_96, e42_97, e42_100, e42_103, e42_106, e42_107, e42_110, e42_111, e42_112, e42_113, e42_116, e42_119, e42_120, e42_121, e42_124, e42_127, e42_128, e42_129, e42_132, e42_135, e42_136, e42_137, e42_140, e42_141, e42_142, eq_self, kcat_nil, kcat_int, kcat_long, kcat_ref, kNL_int, kNL_ref, kNL_null, Option.toList_some, Option.toList_none, List.nil_append, List.cons_append, Nat.reduceAdd, Nat.reduceLeDiff, Nat.reduceEqDiff, true_and, and_true, true_or, or_true, false_or, or_false, ite_true, ite_false, tp1, tp4, tp5, tp7, tp18, e1, e2, e3, e4, e5, e6, e7, e8, e9, e10, z]
    by_cases h0 : x = 0
    · simpa only [h0, if_true] using hq
    by_cases h1 : x = 1
    · simpa only [h0, h1, if_true, if_false, if_neg (show ¬ (1 : Int32) = 0 by decide)] using hq
    by_cases h2 : x = 2
    · simpa only [h0, h1, h2, if_true, if_false, if_neg (show ¬ (2 : Int32) = 0 by decide), if_neg (show ¬ (2 : Int32) = 1 by decide)] using hq
    by_cases h3 : x = 3
    · rw [if_neg h0, if_neg h1, if_neg h2, if_pos h3] at hq ⊢; exact hq
    by_cases h4 : x = 4
    · rw [if_neg h0, if_neg h1, if_neg h2, if_neg h3, if_pos h4] at hq ⊢; exact hq
    by_cases h5 : x = 5
    · rw [if_neg h0, if_neg h1, if_neg h2, if_neg h3, if_neg h4, if_pos h5] at hq ⊢
      by_cases hz : S.1 49 = 0
      · rw [if_pos hz]
        rw [hz] at hq
        exact hq
      · rw [if_neg hz]
        rw [show S.1 49 = 1 from by omega] at hq
        exact hq
    by_cases h6 : x = 6
    · rw [if_neg h0, if_neg h1, if_neg h2, if_neg h3, if_neg h4, if_neg h5, if_pos h6] at hq ⊢; exact hq
    by_cases h7 : x = 7
    · rw [if_neg h0, if_neg h1, if_neg h2, if_neg h3, if_neg h4, if_neg h5, if_neg h6, if_pos h7] at hq ⊢; exact hq
    by_cases h8 : x = 8
    · rw [if_neg h0, if_neg h1, if_neg h2, if_neg h3, if_neg h4, if_neg h5, if_neg h6, if_neg h7, if_pos h8] at hq ⊢; exact hq
    by_cases h9 : x = 9
    · rw [if_neg h0, if_neg h1, if_neg h2, if_neg h3, if_neg h4, if_neg h5, if_neg h6, if_neg h7, if_neg h8, if_pos h9] at hq ⊢; exact hq
    rw [if_neg h0, if_neg h1, if_neg h2, if_neg h3, if_neg h4, if_neg h5, if_neg h6, if_neg h7, if_neg h8, if_neg h9] at hq ⊢
    exact hq
  · show kE 92 0 [.ref 166, .int x] [] M Q
    have hR := hY.1
    have hq := hQ M hY Fy.rfl'
    have e9 : M 166 4 = nI S.2.2.2.1 := hY.2.2.2.2.1
    have e10 : M 166 2 = nI S.2.1 := hY.2.1
    subst hv
    rw [e92_0, e92_1]
    by_cases h0 : x = 0
    · rw [if_pos h0] at hq ⊢
      simp only [e92_0, e92_1, e92_56, e92_57, e92_60, e92_62, e92_63, e92_64, e92_65, e92_68, e92_70, e92_71, e92_72, e92_73, e92_74, e92_75, e92_76, e92_77, e92_80, e92_82, e92_83, e92_84, e92_85, e92_88, e92_90, e92_91, e92_92, e92_93, e92_96, e92_98, e92_99, e92_100, e92_101, e92_104, e92_105, e92_106, e92_109, e92_110, e92_111, eq_self, kcat_nil, kcat_int, kcat_long, kcat_ref, kNL_int, kNL_ref, kNL_null, Option.toList_some, Option.toList_none, List.nil_append, List.cons_append, Nat.reduceAdd, Nat.reduceLeDiff, Nat.reduceEqDiff, true_and, and_true, true_or, or_true, false_or, or_false, ite_true, ite_false, my1, my2, my7, my12, li24, kin_nI (show 24 < 137 by decide) (by decide), clN (show 24 < 2 ^ 31 by decide), hR 24 (by decide)]
      exact hq
    by_cases h1 : x = 1
    · rw [if_neg h0, if_pos h1] at hq ⊢
      subst h1
      have i : (20 : Int32) + 1 - 1 = nI 20 := by decide
      simp only [e92_0, e92_1, e92_56, e92_57, e92_60, e92_62, e92_63, e92_64, e92_65, e92_68, e92_70, e92_71, e92_72, e92_73, e92_74, e92_75, e92_76, e92_77, e92_80, e92_82, e92_83, e92_84, e92_85, e92_88, e92_90, e92_91, e92_92, e92_93, e92_96, e92_98, e92_99, e92_100, e92_101, e92_104, e92_105, e92_106, e92_109, e92_110, e92_111, eq_self, kcat_nil, kcat_int, kcat_long, kcat_ref, kNL_int, kNL_ref, kNL_null, Option.toList_some, Option.toList_none, List.nil_append, List.cons_append, Nat.reduceAdd, Nat.reduceLeDiff, Nat.reduceEqDiff, true_and, and_true, true_or, or_true, false_or, or_false, ite_true, ite_false, my1, my2, my7, my12, i, kin_nI (show 20 < 137 by decide) (by decide), clN (show 20 < 2 ^ 31 by decide), hR 20 (by decide)]
      exact hq
    by_cases h2 : x = 2
    · rw [if_neg h0, if_neg h1, if_pos h2] at hq ⊢
      subst h2
      have i : (20 : Int32) + 2 - 1 = nI 21 := by decide
      simp only [e92_0, e92_1, e92_56, e92_57, e92_60, e92_62, e92_63, e92_64, e92_65, e92_68, e92_70, e92_71, e92_72, e92_73, e92_74, e92_75, e92_76, e92_77, e92_80, e92_82, e92_83, e92_84, e92_85, e92_88, e92_90, e92_91, e92_92, e92_93, e92_96, e92_98, e92_99, e92_100, e92_101, e92_104, e92_105, e92_106, e92_109, e92_110, e92_111, eq_self, kcat_nil, kcat_int, kcat_long, kcat_ref, kNL_int, kNL_ref, kNL_null, Option.toList_some, Option.toList_none, List.nil_append, List.cons_append, Nat.reduceAdd, Nat.reduceLeDiff, Nat.reduceEqDiff, true_and, and_true, true_or, or_true, false_or, or_false, ite_true, ite_false, my1, my2, my7, my12, i, kin_nI (show 21 < 137 by decide) (by decide), clN (show 21 < 2 ^ 31 by decide), hR 21 (by decide)]
      exact hq
    by_cases h3 : x = 3
    · rw [if_neg h0, if_neg h1, if_neg h2, if_pos h3] at hq ⊢
      subst h3
      have i : (20 : Int32) + 3 - 1 = nI 22 := by decide
      simp only [e92_0, e92_1, e92_56, e92_57, e92_60, e92_62, e92_63, e92_64, e92_65, e92_68, e92_70, e92_71, e92_72, e92_73, e92_74, e92_75, e92_76, e92_77, e92_80, e92_82, e92_83, e92_84, e92_85, e92_88, e92_90, e92_91, e92_92, e92_93, e92_96, e92_98, e92_99, e92_100, e92_101, e92_104, e92_105, e92_106, e92_109, e92_110, e92_111, eq_self, kcat_nil, kcat_int, kcat_long, kcat_ref, kNL_int, kNL_ref, kNL_null, Option.toList_some, Option.toList_none, List.nil_append, List.cons_append, Nat.reduceAdd, Nat.reduceLeDiff, Nat.reduceEqDiff, true_and, and_true, true_or, or_true, false_or, or_false, ite_true, ite_false, my1, my2, my7, my12, i, kin_nI (show 22 < 137 by decide) (by decide), clN (show 22 < 2 ^ 31 by decide), hR 22 (by decide)]
      exact hq
    by_cases h4 : x = 4
    · rw [if_neg h0, if_neg h1, if_neg h2, if_neg h3, if_pos h4] at hq ⊢
      subst h4
      have i : (20 : Int32) + 4 - 1 = nI 23 := by decide
      simp only [e92_0, e92_1, e92_56, e92_57, e92_60, e92_62, e92_63, e92_64, e92_65, e92_68, e92_70, e92_71, e92_72, e92_73, e92_74, e92_75, e92_76, e92_77, e92_80, e92_82, e92_83, e92_84, e92_85, e92_88, e92_90, e92_91, e92_92, e92_93, e92_96, e92_98, e92_99, e92_100, e92_101, e92_104, e92_105, e92_106, e92_109, e92_110, e92_111, eq_self, kcat_nil, kcat_int, kcat_long, kcat_ref, kNL_int, kNL_ref, kNL_null, Option.toList_some, Option.toList_none, List.nil_append, List.cons_append, Nat.reduceAdd, Nat.reduceLeDiff, Nat.reduceEqDiff, true_and, and_true, true_or, or_true, false_or, or_false, ite_true, ite_false, my1, my2, my7, my12, i, kin_nI (show 23 < 137 by decide) (by decide), clN (show 23 < 2 ^ 31 by decide), hR 23 (by decide)]
      exact hq
    by_cases h5 : x = 5
    · rw [if_neg h0, if_neg h1, if_neg h2, if_neg h3, if_neg h4, if_pos h5] at hq ⊢
      simp only [e92_0, e92_1, e92_56, e92_57, e92_60, e92_62, e92_63, e92_64, e92_65, e92_68, e92_70, e92_71, e92_72, e92_73, e92_74, e92_75, e92_76, e92_77, e92_80, e92_82, e92_83, e92_84, e92_85, e92_88, e92_90, e92_91, e92_92, e92_93, e92_96, e92_98, e92_99, e92_100, e92_101, e92_104, e92_105, e92_106, e92_109, e92_110, e92_111, eq_self, kcat_nil, kcat_int, kcat_long, kcat_ref, kNL_int, kNL_ref, kNL_null, Option.toList_some, Option.toList_none, List.nil_append, List.cons_append, Nat.reduceAdd, Nat.reduceLeDiff, Nat.reduceEqDiff, true_and, and_true, true_or, or_true, false_or, or_false, ite_true, ite_false, my1, my2, my7, my12, li49, kin_nI (show 49 < 137 by decide) (by decide), clN (show 49 < 2 ^ 31 by decide), hR 49 (by decide)]
      exact hq
    by_cases h6 : x = 6
    · rw [if_neg h0, if_neg h1, if_neg h2, if_neg h3, if_neg h4, if_neg h5, if_pos h6] at hq ⊢
      simp only [e92_0, e92_1, e92_56, e92_57, e92_60, e92_62, e92_63, e92_64, e92_65, e92_68, e92_70, e92_71, e92_72, e92_73, e92_74, e92_75, e92_76, e92_77, e92_80, e92_82, e92_83, e92_84, e92_85, e92_88, e92_90, e92_91, e92_92, e92_93, e92_96, e92_98, e92_99, e92_100, e92_101, e92_104, e92_105, e92_106, e92_109, e92_110, e92_111, eq_self, kcat_nil, kcat_int, kcat_long, kcat_ref, kNL_int, kNL_ref, kNL_null, Option.toList_some, Option.toList_none, List.nil_append, List.cons_append, Nat.reduceAdd, Nat.reduceLeDiff, Nat.reduceEqDiff, true_and, and_true, true_or, or_true, false_or, or_false, ite_true, ite_false, my1, my2, my7, my12, li51, kin_nI (show 51 < 137 by decide) (by decide), clN (show 51 < 2 ^ 31 by decide), hR 51 (by decide)]
      exact hq
    by_cases h7 : x = 7
    · rw [if_neg h0, if_neg h1, if_neg h2, if_neg h3, if_neg h4, if_neg h5, if_neg h6, if_pos h7] at hq ⊢
      simp only [e92_0, e92_1, e92_56, e92_57, e92_60, e92_62, e92_63, e92_64, e92_65, e92_68, e92_70, e92_71, e92_72, e92_73, e92_74, e92_75, e92_76, e92_77, e92_80, e92_82, e92_83, e92_84, e92_85, e92_88, e92_90, e92_91, e92_92, e92_93, e92_96, e92_98, e92_99, e92_100, e92_101, e92_104, e92_105, e92_106, e92_109, e92_110, e92_111, eq_self, kcat_nil, kcat_int, kcat_long, kcat_ref, kNL_int, kNL_ref, kNL_null, Option.toList_some, Option.toList_none, List.nil_append, List.cons_append, Nat.reduceAdd, Nat.reduceLeDiff, Nat.reduceEqDiff, true_and, and_true, true_or, or_true, false_or, or_false, ite_true, ite_false, my1, my2, my7, my12, li52, kin_nI (show 52 < 137 by decide) (by decide), clN (show 52 < 2 ^ 31 by decide), hR 52 (by decide)]
      exact hq
    by_cases h8 : x = 8
    · rw [if_neg h0, if_neg h1, if_neg h2, if_neg h3, if_neg h4, if_neg h5, if_neg h6, if_neg h7, if_pos h8] at hq ⊢
      simp only [e92_0, e92_1, e92_56, e92_57, e92_60, e92_62, e92_63, e92_64, e92_65, e92_68, e92_70, e92_71, e92_72, e92_73, e92_74, e92_75, e92_76, e92_77, e92_80, e92_82, e92_83, e92_84, e92_85, e92_88, e92_90, e92_91, e92_92, e92_93, e92_96, e92_98, e92_99, e92_100, e92_101, e92_104, e92_105, e92_106, e92_109, e92_110, e92_111, eq_self, kcat_nil, kcat_int, kcat_long, kcat_ref, kNL_int, kNL_ref, kNL_null, Option.toList_some, Option.toList_none, List.nil_append, List.cons_append, Nat.reduceAdd, Nat.reduceLeDiff, Nat.reduceEqDiff, true_and, and_true, true_or, or_true, false_or, or_false, ite_true, ite_false, my1, e9]
      exact hq
    by_cases h9 : x = 9
    · rw [if_neg h0, if_neg h1, if_neg h2, if_neg h3, if_neg h4, if_neg h5, if_neg h6, if_neg h7, if_neg h8, if_pos h9] at hq ⊢
      simp only [e92_0, e92_1, e92_56, e92_57, e92_60, e92_62, e92_63, e92_64, e92_65, e92_68, e92_70, e92_71, e92_72, e92_73, e92_74, e92_75, e92_76, e92_77, e92_80, e92_82, e92_83, e92_84, e92_85, e92_88, e92_90, e92_91, e92_92, e92_93, e92_96, e92_98, e92_99, e92_100, e92_101, e92_104, e92_105, e92_106, e92_109, e92_110, e92_111, eq_self, kcat_nil, kcat_int, kcat_long, kcat_ref, kNL_int, kNL_ref, kNL_null, Option.toList_some, Option.toList_none, List.nil_append, List.cons_append, Nat.reduceAdd, Nat.reduceLeDiff, Nat.reduceEqDiff, true_and, and_true, true_or, or_true, false_or, or_false, ite_true, ite_false, my1, e10]
      exact hq
    rw [if_neg h0, if_neg h1, if_neg h2, if_neg h3, if_neg h4, if_neg h5, if_neg h6, if_neg h7, if_neg h8, if_neg h9] at hq ⊢
    simp only [e92_0, e92_1, e92_56, e92_57, e92_60, e92_62, e92_63, e92_64, e92_65, e92_68, e92_70, e92_71, e92_72, e92_73, e92_74, e92_75, e92_76, e92_77, e92_80, e92_82, e92_83, e92_84, e92_85, e92_88, e92_90, e92_91, e92_92, e92_93, e92_96, e92_98, e92_99, e92_100, e92_101, e92_104, e92_105, e92_106, e92_109, e92_110, e92_111, eq_self, kcat_nil, kcat_int, kcat_long, kcat_ref, kNL_int, kNL_ref, kNL_null, Option.toList_some, Option.toList_none, List.nil_append, List.cons_append, Nat.reduceAdd, Nat.reduceLeDiff, Nat.reduceEqDiff, true_and, and_true, true_or, or_true, false_or, or_false, ite_true, ite_false]
    exact hq
theorem op_on (x y : Int32) : OpOK 44 97 [.int x, .int y] := by
  intro S N hN hI
  have n10 : ¬ (1 : Int32) = 0 := by decide
  have hn := hI.1.f24
  rcases rng x 0 (S.1 24) (by omega) (by decide) with h | ⟨t, _, ht, rfl⟩
  · have h' : ¬ (0 ≤ x ∧ x ≤ nI (S.1 24)) := h
    refine ⟨-1, S, hI.mono, fun M Q hX hQ => ?_, fun M Q hY hQ => ?_⟩
    · show kE 44 0 [.ref 0, .int x, .int y] [] M Q
      have e1 : M 1 5 = nI (S.1 24) := hX.1.f24
      simp only [e44_0, e44_1, e44_4, e44_5, e44_8, e44_11, e44_12, e44_15, e44_18, e44_19, e44_20, e44_21, e44_24, e44_27, e44_28, e44_29, e44_32, e44_33, e44_34, eq_self, kcat_nil, kcat_int, kcat_long, kcat_ref, kNL_int, kNL_ref, kNL_null, Option.toList_some, Option.toList_none, List.nil_append, List.cons_append, Nat.reduceAdd, Nat.reduceLeDiff, Nat.reduceEqDiff, true_and, and_true, true_or, or_true, false_or, or_false, ite_true, ite_false, tp1, tp5, tp18, x_isTray st1, e1, h', if_false, if_true]
      exact hQ M hX Fx.rfl'
    · show kE 97 0 [.ref 166, .int x, .int y] [] M Q
      simp only [e97_0, e97_1, e97_2, e97_5, e97_8, e97_9, e97_10, e97_12, e97_15, e97_18, e97_19, e97_22, e97_23, e97_26, e97_27, e97_28, e97_31, e97_32, e97_33, e97_34, eq_self, kcat_nil, kcat_int, kcat_long, kcat_ref, kNL_int, kNL_ref, kNL_null, Option.toList_some, Option.toList_none, List.nil_append, List.cons_append, Nat.reduceAdd, Nat.reduceLeDiff, Nat.reduceEqDiff, true_and, and_true, true_or, or_true, false_or, or_false, ite_true, ite_false, my1, y_isTray, row24 hY.1, h', if_false, if_true]
      exact hQ M hY Fy.rfl'
  have c : (0 : Int32) ≤ nI t ∧ nI t ≤ nI (S.1 24) := rng_in (by omega) ht (by omega)
  rcases rng y 0 9 (by decide) (by decide) with h | ⟨k, _, hk, rfl⟩
  · have h' : ¬ (0 ≤ y ∧ y ≤ 9) := h
    refine ⟨-1, S, hI.mono, fun M Q hX hQ => ?_, fun M Q hY hQ => ?_⟩
    · show kE 44 0 [.ref 0, .int (nI t), .int y] [] M Q
      have e1 : M 1 5 = nI (S.1 24) := hX.1.f24
      simp only [e44_0, e44_1, e44_4, e44_5, e44_8, e44_11, e44_12, e44_15, e44_18, e44_19, e44_20, e44_21, e44_24, e44_27, e44_28, e44_29, e44_32, e44_33, e44_34, eq_self, kcat_nil, kcat_int, kcat_long, kcat_ref, kNL_int, kNL_ref, kNL_null, Option.toList_some, Option.toList_none, List.nil_append, List.cons_append, Nat.reduceAdd, Nat.reduceLeDiff, Nat.reduceEqDiff, true_and, and_true, true_or, or_true, false_or, or_false, ite_true, ite_false, tp1, tp5, tp18, x_isTray st1, e1, c, and_self, n10, x_isClass, h', if_false, if_true, not_true_eq_false]
      exact hQ M hX Fx.rfl'
    · show kE 97 0 [.ref 166, .int (nI t), .int y] [] M Q
      simp only [e97_0, e97_1, e97_2, e97_5, e97_8, e97_9, e97_10, e97_12, e97_15, e97_18, e97_19, e97_22, e97_23, e97_26, e97_27, e97_28, e97_31, e97_32, e97_33, e97_34, eq_self, kcat_nil, kcat_int, kcat_long, kcat_ref, kNL_int, kNL_ref, kNL_null, Option.toList_some, Option.toList_none, List.nil_append, List.cons_append, Nat.reduceAdd, Nat.reduceLeDiff, Nat.reduceEqDiff, true_and, and_true, true_or, or_true, false_or, or_false, ite_true, ite_false, my1, y_isTray, row24 hY.1, c, and_self, n10, y_in, h', if_false, if_true, not_true_eq_false]
      exact hQ M hY Fy.rfl'
  have c2 : (0 : Int32) ≤ nI k ∧ nI k ≤ 9 := rng_in (by omega) hk (by decide)
  refine ⟨nI (S.1 (53 + 12 * t + k)), S, hI.mono, fun M Q hX hQ => ?_, fun M Q hY hQ => ?_⟩
  · show kE 44 0 [.ref 0, .int (nI t), .int (nI k)] [] M Q
    have e1 : M 1 5 = nI (S.1 24) := hX.1.f24
    have e2 : M (8 + 2 * t) k = nI (S.1 (53 + 12 * t + k)) := hX.1.ly (by omega) (by omega)
    simp only [e44_0, e44_1, e44_4, e44_5, e44_8, e44_11, e44_12, e44_15, e44_18, e44_19, e44_20, e44_21, e44_24, e44_27, e44_28, e44_29, e44_32, e44_33, e44_34, eq_self, kcat_nil, kcat_int, kcat_long, kcat_ref, kNL_int, kNL_ref, kNL_null, Option.toList_some, Option.toList_none, List.nil_append, List.cons_append, Nat.reduceAdd, Nat.reduceLeDiff, Nat.reduceEqDiff, true_and, and_true, true_or, or_true, false_or, or_false, ite_true, ite_false, tp1, tp5, tp18, x_isTray st1, e1, c, and_self, n10, x_isClass, c2, if_false, if_true, not_false_eq_true, tp22, tp27, tp32, kin_nI (show t < 7 by omega) (by decide), clN (show t < 2 ^ 31 by omega), tp35, kd_t1 (show t < 7 by omega), rf_t1 (show t < 7 by omega), kd_l1 (show t < 7 by omega), ln_l1 (show t < 7 by omega), kin_nI (show k < 10 by omega) (by decide), clN (show k < 2 ^ 31 by omega), e2]
    exact hQ M hX Fx.rfl'
  · show kE 97 0 [.ref 166, .int (nI t), .int (nI k)] [] M Q
    simp only [e97_0, e97_1, e97_2, e97_5, e97_8, e97_9, e97_10, e97_12, e97_15, e97_18, e97_19, e97_22, e97_23, e97_26, e97_27, e97_28, e97_31, e97_32, e97_33, e97_34, eq_self, kcat_nil, kcat_int, kcat_long, kcat_ref, kNL_int, kNL_ref, kNL_null, Option.toList_some, Option.toList_none, List.nil_append, List.cons_append, Nat.reduceAdd, Nat.reduceLeDiff, Nat.reduceEqDiff, true_and, and_true, true_or, or_true, false_or, or_false, ite_true, ite_false, my1, y_isTray, row24 hY.1, c, and_self, n10, y_in, c2, if_false, if_true, not_false_eq_true, my2, my7, my12, y_at, nI_add, kin_nI (show 53 + 12 * t + k < 137 by omega) (by decide), clN (show 53 + 12 * t + k < 2 ^ 31 by omega), hY.1 (53 + 12 * t + k) (by omega)]
    exact hQ M hY Fy.rfl'
theorem op_tray (x y : Int32) : OpOK 43 96 [.int x, .int y] := by
  intro S N hN hI
  have n10 : ¬ (1 : Int32) = 0 := by decide
  have hn := hI.1.f24
  rcases rng x 0 (S.1 24) (by omega) (by decide) with h | ⟨t, _, ht, rfl⟩
  · have h' : ¬ (0 ≤ x ∧ x ≤ nI (S.1 24)) := h
    refine ⟨-1, S, hI.mono, fun M Q hX hQ => ?_, fun M Q hY hQ => ?_⟩
    · show kE 43 0 [.ref 0, .int x, .int y, .null] [] M Q
      have e1 : M 1 5 = nI (S.1 24) := hX.1.f24
      simp only [e43_0, e43_1, e43_4, e43_5, e43_8, e43_11, e43_12, e43_13, e43_14, e43_17, e43_20, e43_21, e43_22, e43_23, e43_24, e43_60, e43_61, e43_64, e43_65, e43_66, e43_69, e43_72, e43_73, e43_74, e43_77, e43_78, e43_79, e43_82, e43_83, e43_84, e43_85, e43_88, e43_91, e43_94, e43_95, e43_96, eq_self, kcat_nil, kcat_int, kcat_long, kcat_ref, kNL_int, kNL_ref, kNL_null, Option.toList_some, Option.toList_none, List.nil_append, List.cons_append, Nat.reduceAdd, Nat.reduceLeDiff, Nat.reduceEqDiff, true_and, and_true, true_or, or_true, false_or, or_false, ite_true, ite_false, tp1, tp5, tp18, x_isTray st1, e1, h', if_false, if_true, not_true_eq_false]
      exact hQ M hX Fx.rfl'
    · show kE 96 0 [.ref 166, .int x, .int y] [] M Q
      simp only [e96_0, e96_1, e96_2, e96_5, e96_8, e96_9, e96_10, e96_11, e96_14, e96_17, e96_18, e96_19, e96_20, e96_52, e96_53, e96_54, e96_57, e96_60, e96_61, e96_64, e96_66, e96_67, e96_68, e96_69, e96_72, e96_73, e96_74, e96_75, e96_76, e96_77, e96_80, e96_83, e96_84, e96_85, e96_88, e96_89, e96_90, e96_93, e96_95, e96_96, e96_97, e96_98, e96_99, e96_102, e96_103, e96_104, e96_107, e96_109, e96_110, e96_111, e96_112, e96_113, e96_114, e96_117, eq_self, kcat_nil, kcat_int, kcat_long, kcat_ref, kNL_int, kNL_ref, kNL_null, Option.toList_some, Option.toList_none, List.nil_append, List.cons_append, Nat.reduceAdd, Nat.reduceLeDiff, Nat.reduceEqDiff, true_and, and_true, true_or, or_true, false_or, or_false, ite_true, ite_false, my1, y_isTray, row24 hY.1, h', if_false, if_true]
      exact hQ M hY Fy.rfl'
  have c : (0 : Int32) ≤ nI t ∧ nI t ≤ nI (S.1 24) := rng_in (by omega) ht (by omega)
  have hX0 : ∀ M Q, XR S M → kE 43 0 [.ref 0, .int (nI t), .int y, .null] [] M Q = kE 43 24 [.ref 0, .int (nI t), .int y, .ref (7 + 2 * t)] [.int y] M Q := fun M Q hX => by
    have e1 : M 1 5 = nI (S.1 24) := hX.1.f24
    simp only [e43_0, e43_1, e43_4, e43_5, e43_8, e43_11, e43_12, e43_13, e43_14, e43_17, e43_20, e43_21, e43_22, e43_23, e43_60, e43_61, e43_64, e43_65, e43_66, e43_69, e43_72, e43_73, e43_74, e43_77, e43_78, e43_79, e43_82, e43_83, e43_84, e43_85, e43_88, e43_91, e43_94, e43_95, e43_96, eq_self, kcat_nil, kcat_int, kcat_long, kcat_ref, kNL_int, kNL_ref, kNL_null, Option.toList_some, Option.toList_none, List.nil_append, List.cons_append, Nat.reduceAdd, Nat.reduceLeDiff, Nat.reduceEqDiff, true_and, and_true, true_or, or_true, false_or, or_false, ite_true, ite_false, tp1, tp5, tp18, x_isTray st1, e1, c, and_self, n10, if_false, if_true, not_false_eq_true, tp22, tp27, tp32, kin_nI (show t < 7 by omega) (by decide), clN (show t < 2 ^ 31 by omega), tp35]
  have hY0 : ∀ M Q, YR S M → ∀ k, k ≤ 4 → y = nI k → kE 96 0 [.ref 166, .int (nI t), .int y] [] M Q = kE 96 20 [.ref 166, .int (nI t), .int y] [.int y] M Q := fun M Q hY k hk hy => by
    subst hy
    have c2 : (0 : Int32) ≤ nI k ∧ nI k ≤ 4 := rng_in (lo := 0) (hi := 4) (Nat.zero_le _) hk (by decide)
    simp only [e96_0, e96_1, e96_2, e96_5, e96_8, e96_9, e96_10, e96_11, e96_14, e96_17, e96_18, e96_19, e96_52, e96_53, e96_54, e96_57, e96_60, e96_61, e96_64, e96_66, e96_67, e96_68, e96_69, e96_72, e96_73, e96_74, e96_75, e96_76, e96_77, e96_80, e96_83, e96_84, e96_85, e96_88, e96_89, e96_90, e96_93, e96_95, e96_96, e96_97, e96_98, e96_99, e96_102, e96_103, e96_104, e96_107, e96_109, e96_110, e96_111, e96_112, e96_113, e96_114, e96_117, eq_self, kcat_nil, kcat_int, kcat_long, kcat_ref, kNL_int, kNL_ref, kNL_null, Option.toList_some, Option.toList_none, List.nil_append, List.cons_append, Nat.reduceAdd, Nat.reduceLeDiff, Nat.reduceEqDiff, true_and, and_true, true_or, or_true, false_or, or_false, ite_true, ite_false, my1, y_isTray, row24 hY.1, c, and_self, n10, y_in, c2, if_false, if_true, not_false_eq_true]
  by_cases h0 : y = 0
  · subst h0
    refine ⟨nI (if t = S.1 24 then 0 else S.1 (25 + t)), S, hI.mono, fun M Q hX hQ => ?_, fun M Q hY hQ => ?_⟩
    · show kE 43 0 [.ref 0, .int (nI t), .int 0, .null] [] M Q
      rw [hX0 M Q hX]
      have hcl : (nr S.1 24).toNatClampNeg = S.1 24 := clN (by omega)
      have e2 : M (7 + 2 * t) 1 = nI (if t = S.1 24 then 0 else S.1 (25 + t)) := by
        by_cases h : t = S.1 24
        · rw [if_pos h]; exact hX.1.2.2 t (by omega) (by rw [hcl]; omega)
        · rw [if_neg h]; exact hX.1.2.1 t (by omega) (by rw [hcl]; omega)
      rw [e43_24, if_pos rfl]
      simp only [e43_0, e43_1, e43_4, e43_5, e43_8, e43_11, e43_12, e43_13, e43_14, e43_17, e43_20, e43_21, e43_22, e43_23, e43_24, e43_60, e43_61, e43_64, e43_65, e43_66, e43_69, e43_72, e43_73, e43_74, e43_77, e43_78, e43_79, e43_82, e43_83, e43_84, e43_85, e43_88, e43_91, e43_94, e43_95, e43_96, eq_self, kcat_nil, kcat_int, kcat_long, kcat_ref, kNL_int, kNL_ref, kNL_null, Option.toList_some, Option.toList_none, List.nil_append, List.cons_append, Nat.reduceAdd, Nat.reduceLeDiff, Nat.reduceEqDiff, true_and, and_true, true_or, or_true, false_or, or_false, ite_true, ite_false, kd_t1 (show t < 7 by omega), e2]
      exact hQ M hX Fx.rfl'
    · show kE 96 0 [.ref 166, .int (nI t), .int 0] [] M Q
      rw [hY0 M Q hY 0 (by decide) rfl, e96_20, if_pos rfl]
      by_cases h : t = S.1 24
      · have so := sieve_out hn
        have hq := hQ M hY Fy.rfl'
        rw [if_pos h] at hq
        simp only [e96_0, e96_1, e96_2, e96_5, e96_8, e96_9, e96_10, e96_11, e96_14, e96_17, e96_18, e96_19, e96_20, e96_52, e96_53, e96_54, e96_57, e96_60, e96_61, e96_64, e96_66, e96_67, e96_68, e96_69, e96_72, e96_73, e96_74, e96_75, e96_76, e96_77, e96_80, e96_83, e96_84, e96_85, e96_88, e96_89, e96_90, e96_93, e96_95, e96_96, e96_97, e96_98, e96_99, e96_102, e96_103, e96_104, e96_107, e96_109, e96_110, e96_111, e96_112, e96_113, e96_114, e96_117, eq_self, kcat_nil, kcat_int, kcat_long, kcat_ref, kNL_int, kNL_ref, kNL_null, Option.toList_some, Option.toList_none, List.nil_append, List.cons_append, Nat.reduceAdd, Nat.reduceLeDiff, Nat.reduceEqDiff, true_and, and_true, true_or, or_true, false_or, or_false, ite_true, ite_false, my1, y_isSieve, row24 hY.1, h, so, if_false, if_true]
        exact hq
      · have si := sieve_in (show t < S.1 24 by omega) hn
        have hq := hQ M hY Fy.rfl'
        rw [if_neg h] at hq
        simp only [e96_0, e96_1, e96_2, e96_5, e96_8, e96_9, e96_10, e96_11, e96_14, e96_17, e96_18, e96_19, e96_20, e96_52, e96_53, e96_54, e96_57, e96_60, e96_61, e96_64, e96_66, e96_67, e96_68, e96_69, e96_72, e96_73, e96_74, e96_75, e96_76, e96_77, e96_80, e96_83, e96_84, e96_85, e96_88, e96_89, e96_90, e96_93, e96_95, e96_96, e96_97, e96_98, e96_99, e96_102, e96_103, e96_104, e96_107, e96_109, e96_110, e96_111, e96_112, e96_113, e96_114, e96_117, eq_self, kcat_nil, kcat_int, kcat_long, kcat_ref, kNL_int, kNL_ref, kNL_null, Option.toList_some, Option.toList_none, List.nil_append, List.cons_append, Nat.reduceAdd, Nat.reduceLeDiff, Nat.reduceEqDiff, true_and, and_true, true_or, or_true, false_or, or_false, ite_true, ite_false, my1, y_isSieve, row24 hY.1, si, and_self, n10, if_false, if_true, my2, my7, my12, li25, nI_add, kin_nI (show 25 + t < 137 by omega) (by decide), clN (show 25 + t < 2 ^ 31 by omega), hY.1 (25 + t) (by omega)]
        exact hq
  by_cases h1 : y = 1
  · subst h1
    refine ⟨nI (sumN S.1 (53 + 12 * t)), S, hI.mono, fun M Q hX hQ => ?_, fun M Q hY hQ => ?_⟩
    · show kE 43 0 [.ref 0, .int (nI t), .int 1, .null] [] M Q
      rw [hX0 M Q hX, e43_24, if_neg h0, if_pos rfl]
      have e := sum_ly hX.1 (show t < 7 by omega)
      have e : ksum (M (8 + 2 * t)) 10 = nI (sumN S.1 (53 + 12 * t)) := e
      simp only [e43_0, e43_1, e43_4, e43_5, e43_8, e43_11, e43_12, e43_13, e43_14, e43_17, e43_20, e43_21, e43_22, e43_23, e43_24, e43_60, e43_61, e43_64, e43_65, e43_66, e43_69, e43_72, e43_73, e43_74, e43_77, e43_78, e43_79, e43_82, e43_83, e43_84, e43_85, e43_88, e43_91, e43_94, e43_95, e43_96, eq_self, kcat_nil, kcat_int, kcat_long, kcat_ref, kNL_int, kNL_ref, kNL_null, Option.toList_some, Option.toList_none, List.nil_append, List.cons_append, Nat.reduceAdd, Nat.reduceLeDiff, Nat.reduceEqDiff, true_and, and_true, true_or, or_true, false_or, or_false, ite_true, ite_false, kd_t1 (show t < 7 by omega), rf_t1 (show t < 7 by omega), x_sumOf (kd_l1 (show t < 7 by omega)) (show ln (8 + 2 * t) < 2 ^ 31 by rw [ln_l1 (by omega)]; decide), ln_l1 (show t < 7 by omega), e]
      exact hQ M hX Fx.rfl'
    · show kE 96 0 [.ref 166, .int (nI t), .int 1] [] M Q
      rw [hY0 M Q hY 1 (by decide) rfl, e96_20, if_neg h0, if_pos rfl]
      simp only [e96_0, e96_1, e96_2, e96_5, e96_8, e96_9, e96_10, e96_11, e96_14, e96_17, e96_18, e96_19, e96_20, e96_52, e96_53, e96_54, e96_57, e96_60, e96_61, e96_64, e96_66, e96_67, e96_68, e96_69, e96_72, e96_73, e96_74, e96_75, e96_76, e96_77, e96_80, e96_83, e96_84, e96_85, e96_88, e96_89, e96_90, e96_93, e96_95, e96_96, e96_97, e96_98, e96_99, e96_102, e96_103, e96_104, e96_107, e96_109, e96_110, e96_111, e96_112, e96_113, e96_114, e96_117, eq_self, kcat_nil, kcat_int, kcat_long, kcat_ref, kNL_int, kNL_ref, kNL_null, Option.toList_some, Option.toList_none, List.nil_append, List.cons_append, Nat.reduceAdd, Nat.reduceLeDiff, Nat.reduceEqDiff, true_and, and_true, true_or, or_true, false_or, or_false, ite_true, ite_false, my1, y_at, y_sum hY.1 (show 53 + 12 * t + 10 ≤ 137 by omega)]
      exact hQ M hY Fy.rfl'
  by_cases h2 : y = 2
  · subst h2
    refine ⟨nI (S.1 (53 + 12 * t + 10)), S, hI.mono, fun M Q hX hQ => ?_, fun M Q hY hQ => ?_⟩
    · show kE 43 0 [.ref 0, .int (nI t), .int 2, .null] [] M Q
      rw [hX0 M Q hX, e43_24, if_neg h0, if_neg h1, if_pos rfl]
      have e : M (7 + 2 * t) 2 = nI (S.1 (53 + 12 * t + 10)) := hX.1.sk (by omega)
      simp only [e43_0, e43_1, e43_4, e43_5, e43_8, e43_11, e43_12, e43_13, e43_14, e43_17, e43_20, e43_21, e43_22, e43_23, e43_24, e43_60, e43_61, e43_64, e43_65, e43_66, e43_69, e43_72, e43_73, e43_74, e43_77, e43_78, e43_79, e43_82, e43_83, e43_84, e43_85, e43_88, e43_91, e43_94, e43_95, e43_96, eq_self, kcat_nil, kcat_int, kcat_long, kcat_ref, kNL_int, kNL_ref, kNL_null, Option.toList_some, Option.toList_none, List.nil_append, List.cons_append, Nat.reduceAdd, Nat.reduceLeDiff, Nat.reduceEqDiff, true_and, and_true, true_or, or_true, false_or, or_false, ite_true, ite_false, kd_t1 (show t < 7 by omega), e]
      exact hQ M hX Fx.rfl'
    · show kE 96 0 [.ref 166, .int (nI t), .int 2] [] M Q
      rw [hY0 M Q hY 2 (by decide) rfl, e96_20, if_neg h0, if_neg h1, if_pos rfl]
      simp only [e96_0, e96_1, e96_2, e96_5, e96_8, e96_9, e96_10, e96_11, e96_14, e96_17, e96_18, e96_19, e96_20, e96_52, e96_53, e96_54, e96_57, e96_60, e96_61, e96_64, e96_66, e96_67, e96_68, e96_69, e96_72, e96_73, e96_74, e96_75, e96_76, e96_77, e96_80, e96_83, e96_84, e96_85, e96_88, e96_89, e96_90, e96_93, e96_95, e96_96, e96_97, e96_98, e96_99, e96_102, e96_103, e96_104, e96_107, e96_109, e96_110, e96_111, e96_112, e96_113, e96_114, e96_117, eq_self, kcat_nil, kcat_int, kcat_long, kcat_ref, kNL_int, kNL_ref, kNL_null, Option.toList_some, Option.toList_none, List.nil_append, List.cons_append, Nat.reduceAdd, Nat.reduceLeDiff, Nat.reduceEqDiff, true_and, and_true, true_or, or_true, false_or, or_false, ite_true, ite_false, my1, my2, my7, my12, y_at, li10, nI_add, kin_nI (show 53 + 12 * t + 10 < 137 by omega) (by decide), clN (show 53 + 12 * t + 10 < 2 ^ 31 by omega), hY.1 (53 + 12 * t + 10) (by omega)]
      exact hQ M hY Fy.rfl'
  by_cases h3 : y = 3
  · subst h3
    refine ⟨nI (S.1 (53 + 12 * t + 11)), S, hI.mono, fun M Q hX hQ => ?_, fun M Q hY hQ => ?_⟩
    · show kE 43 0 [.ref 0, .int (nI t), .int 3, .null] [] M Q
      rw [hX0 M Q hX, e43_24, if_neg h0, if_neg h1, if_neg h2, if_pos rfl]
      have e : M (7 + 2 * t) 3 = nI (S.1 (53 + 12 * t + 11)) := hX.1.co (by omega)
      simp only [e43_0, e43_1, e43_4, e43_5, e43_8, e43_11, e43_12, e43_13, e43_14, e43_17, e43_20, e43_21, e43_22, e43_23, e43_24, e43_60, e43_61, e43_64, e43_65, e43_66, e43_69, e43_72, e43_73, e43_74, e43_77, e43_78, e43_79, e43_82, e43_83, e43_84, e43_85, e43_88, e43_91, e43_94, e43_95, e43_96, eq_self, kcat_nil, kcat_int, kcat_long, kcat_ref, kNL_int, kNL_ref, kNL_null, Option.toList_some, Option.toList_none, List.nil_append, List.cons_append, Nat.reduceAdd, Nat.reduceLeDiff, Nat.reduceEqDiff, true_and, and_true, true_or, or_true, false_or, or_false, ite_true, ite_false, kd_t1 (show t < 7 by omega), e]
      exact hQ M hX Fx.rfl'
    · show kE 96 0 [.ref 166, .int (nI t), .int 3] [] M Q
      rw [hY0 M Q hY 3 (by decide) rfl, e96_20, if_neg h0, if_neg h1, if_neg h2, if_pos rfl]
      simp only [e96_0, e96_1, e96_2, e96_5, e96_8, e96_9, e96_10, e96_11, e96_14, e96_17, e96_18, e96_19, e96_20, e96_52, e96_53, e96_54, e96_57, e96_60, e96_61, e96_64, e96_66, e96_67, e96_68, e96_69, e96_72, e96_73, e96_74, e96_75, e96_76, e96_77, e96_80, e96_83, e96_84, e96_85, e96_88, e96_89, e96_90, e96_93, e96_95, e96_96, e96_97, e96_98, e96_99, e96_102, e96_103, e96_104, e96_107, e96_109, e96_110, e96_111, e96_112, e96_113, e96_114, e96_117, eq_self, kcat_nil, kcat_int, kcat_long, kcat_ref, kNL_int, kNL_ref, kNL_null, Option.toList_some, Option.toList_none, List.nil_append, List.cons_append, Nat.reduceAdd, Nat.reduceLeDiff, Nat.reduceEqDiff, true_and, and_true, true_or, or_true, false_or, or_false, ite_true, ite_false, my1, my2, my7, my12, y_at, li11, nI_add, kin_nI (show 53 + 12 * t + 11 < 137 by omega) (by decide), clN (show 53 + 12 * t + 11 < 2 ^ 31 by omega), hY.1 (53 + 12 * t + 11) (by omega)]
      exact hQ M hY Fy.rfl'
  by_cases h4 : y = 4
  · subst h4
    have hst := tot_ge (p := S.1) (i := 53 + 12 * t + 10) (by omega) (by omega)
    have htt := hI.1.tot
    have hC := hI.1.2.2.1
    refine ⟨nI (if t = S.1 24 then 1000 else openN S.1 t), S, hI.mono, fun M Q hX hQ => ?_, fun M Q hY hQ => ?_⟩
    · show kE 43 0 [.ref 0, .int (nI t), .int 4, .null] [] M Q
      rw [hX0 M Q hX, e43_24, if_neg h0, if_neg h1, if_neg h2, if_neg h3, if_pos rfl]
      have e : M (7 + 2 * t) 2 = nI (S.1 (53 + 12 * t + 10)) := hX.1.sk (by omega)
      have e6 : M 1 6 = nI (S.1 20) := hX.1.f20
      simp only [e43_0, e43_1, e43_4, e43_5, e43_8, e43_11, e43_12, e43_13, e43_14, e43_17, e43_20, e43_21, e43_22, e43_23, e43_24, e43_60, e43_61, e43_64, e43_65, e43_66, e43_69, e43_72, e43_73, e43_74, e43_77, e43_78, e43_79, e43_82, e43_83, e43_84, e43_85, e43_88, e43_91, e43_94, e43_95, e43_96, eq_self, kcat_nil, kcat_int, kcat_long, kcat_ref, kNL_int, kNL_ref, kNL_null, Option.toList_some, Option.toList_none, List.nil_append, List.cons_append, Nat.reduceAdd, Nat.reduceLeDiff, Nat.reduceEqDiff, true_and, and_true, true_or, or_true, false_or, or_false, ite_true, ite_false, tp1, tp5, tp18, kd_t1 (show t < 7 by omega), x_openness (kd_t1 (show t < 7 by omega)), e, e6, xopen_nI (show S.1 (53 + 12 * t + 10) ≤ 99990 by omega) hC.1 hC.2]
      have hq := hQ M hX Fx.rfl'
      by_cases h : t = S.1 24
      · rw [if_pos h] at hq
        have hz : S.1 (53 + 12 * t + 10) = 0 := hI.1.2.2.2.2.2.2.2.2.2.2.2.2.2.2.2 t (by omega) (by omega)
        rw [hz, Nat.zero_mul, Nat.zero_div]
        exact hq
      · rw [if_neg h] at hq
        exact hq
    · show kE 96 0 [.ref 166, .int (nI t), .int 4] [] M Q
      rw [hY0 M Q hY 4 (by decide) rfl, e96_20, if_neg h0, if_neg h1, if_neg h2, if_neg h3]
      simp only [e96_0, e96_1, e96_2, e96_5, e96_8, e96_9, e96_10, e96_11, e96_14, e96_17, e96_18, e96_19, e96_20, e96_52, e96_53, e96_54, e96_57, e96_60, e96_61, e96_64, e96_66, e96_67, e96_68, e96_69, e96_72, e96_73, e96_74, e96_75, e96_76, e96_77, e96_80, e96_83, e96_84, e96_85, e96_88, e96_89, e96_90, e96_93, e96_95, e96_96, e96_97, e96_98, e96_99, e96_102, e96_103, e96_104, e96_107, e96_109, e96_110, e96_111, e96_112, e96_113, e96_114, e96_117, eq_self, kcat_nil, kcat_int, kcat_long, kcat_ref, kNL_int, kNL_ref, kNL_null, Option.toList_some, Option.toList_none, List.nil_append, List.cons_append, Nat.reduceAdd, Nat.reduceLeDiff, Nat.reduceEqDiff, true_and, and_true, true_or, or_true, false_or, or_false, ite_true, ite_false, my1, y_openness hY.1 hn ht hC (show S.1 (53 + 12 * t + 10) ≤ 99990 by omega)]
      exact hQ M hY Fy.rfl'
  refine ⟨-1, S, hI.mono, fun M Q hX hQ => ?_, fun M Q hY hQ => ?_⟩
  · show kE 43 0 [.ref 0, .int (nI t), .int y, .null] [] M Q
    rw [hX0 M Q hX, e43_24, if_neg h0, if_neg h1, if_neg h2, if_neg h3, if_neg h4]
    simp only [e43_0, e43_1, e43_4, e43_5, e43_8, e43_11, e43_12, e43_13, e43_14, e43_17, e43_20, e43_21, e43_22, e43_23, e43_24, e43_60, e43_61, e43_64, e43_65, e43_66, e43_69, e43_72, e43_73, e43_74, e43_77, e43_78, e43_79, e43_82, e43_83, e43_84, e43_85, e43_88, e43_91, e43_94, e43_95, e43_96, eq_self, kcat_nil, kcat_int, kcat_long, kcat_ref, kNL_int, kNL_ref, kNL_null, Option.toList_some, Option.toList_none, List.nil_append, List.cons_append, Nat.reduceAdd, Nat.reduceLeDiff, Nat.reduceEqDiff, true_and, and_true, true_or, or_true, false_or, or_false, ite_true, ite_false]
    exact hQ M hX Fx.rfl'
  · show kE 96 0 [.ref 166, .int (nI t), .int y] [] M Q
    have h' : ¬ (0 ≤ y ∧ y ≤ 4) := by
      rcases rng y 0 4 (by decide) (by decide) with h | ⟨k, _, hk, rfl⟩
      · exact h
      · exfalso
        rcases (show k = 0 ∨ k = 1 ∨ k = 2 ∨ k = 3 ∨ k = 4 by omega) with rfl | rfl | rfl | rfl | rfl
        · exact h0 rfl
        · exact h1 rfl
        · exact h2 rfl
        · exact h3 rfl
        · exact h4 rfl
    simp only [e96_0, e96_1, e96_2, e96_5, e96_8, e96_9, e96_10, e96_11, e96_14, e96_17, e96_18, e96_19, e96_20, e96_52, e96_53, e96_54, e96_57, e96_60, e96_61, e96_64, e96_66, e96_67, e96_68, e96_69, e96_72, e96_73, e96_74, e96_75, e96_76, e96_77, e96_80, e96_83, e96_84, e96_85, e96_88, e96_89, e96_90, e96_93, e96_95, e96_96, e96_97, e96_98, e96_99, e96_102, e96_103, e96_104, e96_107, e96_109, e96_110, e96_111, e96_112, e96_113, e96_114, e96_117, eq_self, kcat_nil, kcat_int, kcat_long, kcat_ref, kNL_int, kNL_ref, kNL_null, Option.toList_some, Option.toList_none, List.nil_append, List.cons_append, Nat.reduceAdd, Nat.reduceLeDiff, Nat.reduceEqDiff, true_and, and_true, true_or, or_true, false_or, or_false, ite_true, ite_false, my1, y_isTray, row24 hY.1, c, and_self, n10, y_in, h', if_false, if_true, not_true_eq_false]
    exact hQ M hY Fy.rfl'
