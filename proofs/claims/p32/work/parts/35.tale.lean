/-! the law's tale: what it reads of the bench, as one number of the state -/
def tlA (p : NR) : Nat → Int64
  | 0 => 3
  | k + 1 => tlA p k * 31 + (nI (cnt8 p k)).toInt64
def tlB (p : NR) : Nat → Int64
  | 0 => tlA p 8
  | k + 1 => tlB p k * 37 + (massV p 0 (nI k)).toInt64 + 3 * (massV p 10 (nI k)).toInt64
def tlC (p : NR) (t : Nat) (a : Int64) : Nat → Int64
  | 0 => a
  | k + 1 => tlC p t a k * 41 + (trayV p t (nI k)).toInt64
def tlD (p : NR) (t : Nat) (a : Int64) : Nat → Int64
  | 0 => a
  | k + 1 => tlD p t a k * 43 + (nI (p (53 + 12 * t + k))).toInt64
def tlE (p : NR) : Nat → Int64
  | 0 => tlB p 10
  | t + 1 => tlD p t (tlC p t (tlE p t) 5) 10
def taleV (p : NR) : Int64 := tlE p (p 24 + 1) * 47 + (lossV p).toInt64
theorem cnt_0 (S : KS) : cntV S 0 = nI (S.1 24) := rfl
theorem x_tale {S : KS} {N : Nat} {M : KMem} (hI : IS S N) (hX : XR S M) (Q : Option Value → KMem → Prop) : kE 45 0 [.ref 0, .null, .null, .null, .null] [] M Q = Q (some (.long (taleV S.1))) M := by
  have hn := hI.1.f24
  have loopA : ∀ d j, j + d = 8 → kE 45 6 [.ref 0, .long (tlA S.1 j), .null, .int (nI j), .null] [] M Q = kE 45 31 [.ref 0, .long (tlA S.1 8), .null, .int (nI 8), .null] [] M Q := by
    intro d
    induction d with
    | zero =>
      intro j hj
      have : j = 8 := by omega
      subst this
      have le : (8 : Int32) ≤ nI 8 := by decide
      rw [e45_6]
      simp only [e45_0, e45_3, e45_4, e45_5, e45_7, e45_9, e45_12, e45_13, e45_16, e45_17, e45_18, e45_19, e45_22, e45_23, e45_24, e45_25, e45_28, e45_32, e45_33, e45_34, e45_36, e45_39, e45_40, e45_43, e45_44, e45_45, e45_46, e45_49, e45_50, e45_51, e45_54, e45_55, e45_56, e45_59, e45_60, e45_61, e45_62, e45_63, e45_66, e45_69, e45_70, e45_71, e45_72, e45_73, e45_74, e45_77, e45_80, e45_81, e45_83, e45_85, e45_86, e45_89, e45_90, e45_93, e45_94, e45_95, e45_96, e45_98, e45_101, e45_102, e45_103, e45_104, e45_107, e45_110, e45_111, e45_113, e45_115, e45_117, e45_120, e45_121, e45_124, e45_125, e45_126, e45_127, e45_129, e45_132, e45_133, e45_134, e45_135, e45_138, e45_141, e45_144, e45_147, e45_148, e45_151, e45_152, e45_153, e45_156, e45_157, e45_158, eq_self, kcat_nil, kcat_int, kcat_long, kcat_ref, kNL_int, kNL_ref, kNL_null, Option.toList_some, Option.toList_none, List.nil_append, List.cons_append, Nat.reduceAdd, Nat.reduceLeDiff, Nat.reduceEqDiff, true_and, and_true, true_or, or_true, false_or, or_false, ite_true, ite_false, le]
    | succ d ih =>
      intro j hj
      have nle : ¬ (8 : Int32) ≤ nI j := by rw [show (8 : Int32) = nI 8 from rfl]; exact nI_ge (by omega) (by decide)
      rw [← ih (j + 1) (by omega), e45_6]
      simp only [e45_0, e45_3, e45_4, e45_5, e45_7, e45_9, e45_12, e45_13, e45_16, e45_17, e45_18, e45_19, e45_22, e45_23, e45_24, e45_25, e45_28, e45_32, e45_33, e45_34, e45_36, e45_39, e45_40, e45_43, e45_44, e45_45, e45_46, e45_49, e45_50, e45_51, e45_54, e45_55, e45_56, e45_59, e45_60, e45_61, e45_62, e45_63, e45_66, e45_69, e45_70, e45_71, e45_72, e45_73, e45_74, e45_77, e45_80, e45_81, e45_83, e45_85, e45_86, e45_89, e45_90, e45_93, e45_94, e45_95, e45_96, e45_98, e45_101, e45_102, e45_103, e45_104, e45_107, e45_110, e45_111, e45_113, e45_115, e45_117, e45_120, e45_121, e45_124, e45_125, e45_126, e45_127, e45_129, e45_132, e45_133, e45_134, e45_135, e45_138, e45_141, e45_144, e45_147, e45_148, e45_151, e45_152, e45_153, e45_156, e45_157, e45_158, eq_self, kcat_nil, kcat_int, kcat_long, kcat_ref, kNL_int, kNL_ref, kNL_null, Option.toList_some, Option.toList_none, List.nil_append, List.cons_append, Nat.reduceAdd, Nat.reduceLeDiff, Nat.reduceEqDiff, true_and, and_true, true_or, or_true, false_or, or_false, ite_true, ite_false, nle, tp5, x_count hI hX, cnt_8 S j (by omega), nI_add1, tlA]
  have loopB : ∀ d j, j + d = 10 → kE 45 33 [.ref 0, .long (tlB S.1 j), .null, .int (nI j), .null] [] M Q = kE 45 69 [.ref 0, .long (tlB S.1 10), .null, .int (nI 10), .null] [] M Q := by
    intro d
    induction d with
    | zero =>
      intro j hj
      have : j = 10 := by omega
      subst this
      have le : (10 : Int32) ≤ nI 10 := by decide
      rw [e45_33]
      simp only [e45_0, e45_3, e45_4, e45_5, e45_6, e45_7, e45_9, e45_12, e45_13, e45_16, e45_17, e45_18, e45_19, e45_22, e45_23, e45_24, e45_25, e45_28, e45_31, e45_32, e45_34, e45_36, e45_39, e45_40, e45_43, e45_44, e45_45, e45_46, e45_49, e45_50, e45_51, e45_54, e45_55, e45_56, e45_59, e45_60, e45_61, e45_62, e45_63, e45_66, e45_70, e45_71, e45_72, e45_73, e45_74, e45_77, e45_80, e45_81, e45_83, e45_85, e45_86, e45_89, e45_90, e45_93, e45_94, e45_95, e45_96, e45_98, e45_101, e45_102, e45_103, e45_104, e45_107, e45_110, e45_111, e45_113, e45_115, e45_117, e45_120, e45_121, e45_124, e45_125, e45_126, e45_127, e45_129, e45_132, e45_133, e45_134, e45_135, e45_138, e45_141, e45_144, e45_147, e45_148, e45_151, e45_152, e45_153, e45_156, e45_157, e45_158, eq_self, kcat_nil, kcat_int, kcat_long, kcat_ref, kNL_int, kNL_ref, kNL_null, Option.toList_some, Option.toList_none, List.nil_append, List.cons_append, Nat.reduceAdd, Nat.reduceLeDiff, Nat.reduceEqDiff, true_and, and_true, true_or, or_true, false_or, or_false, ite_true, ite_false, le]
    | succ d ih =>
      intro j hj
      have nle : ¬ (10 : Int32) ≤ nI j := by rw [li10]; exact nI_ge (by omega) (by decide)
      rw [← ih (j + 1) (by omega), e45_33]
      simp only [e45_0, e45_3, e45_4, e45_5, e45_6, e45_7, e45_9, e45_12, e45_13, e45_16, e45_17, e45_18, e45_19, e45_22, e45_23, e45_24, e45_25, e45_28, e45_31, e45_32, e45_34, e45_36, e45_39, e45_40, e45_43, e45_44, e45_45, e45_46, e45_49, e45_50, e45_51, e45_54, e45_55, e45_56, e45_59, e45_60, e45_61, e45_62, e45_63, e45_66, e45_70, e45_71, e45_72, e45_73, e45_74, e45_77, e45_80, e45_81, e45_83, e45_85, e45_86, e45_89, e45_90, e45_93, e45_94, e45_95, e45_96, e45_98, e45_101, e45_102, e45_103, e45_104, e45_107, e45_110, e45_111, e45_113, e45_115, e45_117, e45_120, e45_121, e45_124, e45_125, e45_126, e45_127, e45_129, e45_132, e45_133, e45_134, e45_135, e45_138, e45_141, e45_144, e45_147, e45_148, e45_151, e45_152, e45_153, e45_156, e45_157, e45_158, eq_self, kcat_nil, kcat_int, kcat_long, kcat_ref, kNL_int, kNL_ref, kNL_null, Option.toList_some, Option.toList_none, List.nil_append, List.cons_append, Nat.reduceAdd, Nat.reduceLeDiff, Nat.reduceEqDiff, true_and, and_true, true_or, or_true, false_or, or_false, ite_true, ite_false, nle, tp5, x_mass hX, x_reserve hX, nI_add1, tlB]
  have loopC : ∀ t, t ≤ S.1 24 → ∀ a d j, j + d = 5 → kE 45 83 [.ref 0, .long (tlC S.1 t a j), .null, .int (nI t), .int (nI j)] [] M Q = kE 45 110 [.ref 0, .long (tlC S.1 t a 5), .null, .int (nI t), .int (nI 5)] [] M Q := by
    intro t ht a d
    induction d with
    | zero =>
      intro j hj
      have : j = 5 := by omega
      subst this
      have le : (5 : Int32) ≤ nI 5 := by decide
      rw [e45_83]
      simp only [e45_0, e45_3, e45_4, e45_5, e45_6, e45_7, e45_9, e45_12, e45_13, e45_16, e45_17, e45_18, e45_19, e45_22, e45_23, e45_24, e45_25, e45_28, e45_31, e45_32, e45_33, e45_34, e45_36, e45_39, e45_40, e45_43, e45_44, e45_45, e45_46, e45_49, e45_50, e45_51, e45_54, e45_55, e45_56, e45_59, e45_60, e45_61, e45_62, e45_63, e45_66, e45_69, e45_70, e45_71, e45_72, e45_73, e45_74, e45_77, e45_80, e45_81, e45_85, e45_86, e45_89, e45_90, e45_93, e45_94, e45_95, e45_96, e45_98, e45_101, e45_102, e45_103, e45_104, e45_107, e45_111, e45_113, e45_115, e45_117, e45_120, e45_121, e45_124, e45_125, e45_126, e45_127, e45_129, e45_132, e45_133, e45_134, e45_135, e45_138, e45_141, e45_144, e45_147, e45_148, e45_151, e45_152, e45_153, e45_156, e45_157, e45_158, eq_self, kcat_nil, kcat_int, kcat_long, kcat_ref, kNL_int, kNL_ref, kNL_null, Option.toList_some, Option.toList_none, List.nil_append, List.cons_append, Nat.reduceAdd, Nat.reduceLeDiff, Nat.reduceEqDiff, true_and, and_true, true_or, or_true, false_or, or_false, ite_true, ite_false, le]
    | succ d ih =>
      intro j hj
      have nle : ¬ (5 : Int32) ≤ nI j := by rw [show (5 : Int32) = nI 5 from rfl]; exact nI_ge (by omega) (by decide)
      rw [← ih (j + 1) (by omega), e45_83]
      simp only [e45_0, e45_3, e45_4, e45_5, e45_6, e45_7, e45_9, e45_12, e45_13, e45_16, e45_17, e45_18, e45_19, e45_22, e45_23, e45_24, e45_25, e45_28, e45_31, e45_32, e45_33, e45_34, e45_36, e45_39, e45_40, e45_43, e45_44, e45_45, e45_46, e45_49, e45_50, e45_51, e45_54, e45_55, e45_56, e45_59, e45_60, e45_61, e45_62, e45_63, e45_66, e45_69, e45_70, e45_71, e45_72, e45_73, e45_74, e45_77, e45_80, e45_81, e45_85, e45_86, e45_89, e45_90, e45_93, e45_94, e45_95, e45_96, e45_98, e45_101, e45_102, e45_103, e45_104, e45_107, e45_111, e45_113, e45_115, e45_117, e45_120, e45_121, e45_124, e45_125, e45_126, e45_127, e45_129, e45_132, e45_133, e45_134, e45_135, e45_138, e45_141, e45_144, e45_147, e45_148, e45_151, e45_152, e45_153, e45_156, e45_157, e45_158, eq_self, kcat_nil, kcat_int, kcat_long, kcat_ref, kNL_int, kNL_ref, kNL_null, Option.toList_some, Option.toList_none, List.nil_append, List.cons_append, Nat.reduceAdd, Nat.reduceLeDiff, Nat.reduceEqDiff, true_and, and_true, true_or, or_true, false_or, or_false, ite_true, ite_false, nle, tp5, x_tray hI hX ht, nI_add1, tlC]
  have loopD : ∀ t, t ≤ S.1 24 → ∀ a d j, j + d = 10 → kE 45 113 [.ref 0, .long (tlD S.1 t a j), .null, .int (nI t), .int (nI j)] [] M Q = kE 45 141 [.ref 0, .long (tlD S.1 t a 10), .null, .int (nI t), .int (nI 10)] [] M Q := by
    intro t ht a d
    induction d with
    | zero =>
      intro j hj
      have : j = 10 := by omega
      subst this
      have le : (10 : Int32) ≤ nI 10 := by decide
      rw [e45_113]
      simp only [e45_0, e45_3, e45_4, e45_5, e45_6, e45_7, e45_9, e45_12, e45_13, e45_16, e45_17, e45_18, e45_19, e45_22, e45_23, e45_24, e45_25, e45_28, e45_31, e45_32, e45_33, e45_34, e45_36, e45_39, e45_40, e45_43, e45_44, e45_45, e45_46, e45_49, e45_50, e45_51, e45_54, e45_55, e45_56, e45_59, e45_60, e45_61, e45_62, e45_63, e45_66, e45_69, e45_70, e45_71, e45_72, e45_73, e45_74, e45_77, e45_80, e45_81, e45_83, e45_85, e45_86, e45_89, e45_90, e45_93, e45_94, e45_95, e45_96, e45_98, e45_101, e45_102, e45_103, e45_104, e45_107, e45_110, e45_111, e45_115, e45_117, e45_120, e45_121, e45_124, e45_125, e45_126, e45_127, e45_129, e45_132, e45_133, e45_134, e45_135, e45_138, e45_144, e45_147, e45_148, e45_151, e45_152, e45_153, e45_156, e45_157, e45_158, eq_self, kcat_nil, kcat_int, kcat_long, kcat_ref, kNL_int, kNL_ref, kNL_null, Option.toList_some, Option.toList_none, List.nil_append, List.cons_append, Nat.reduceAdd, Nat.reduceLeDiff, Nat.reduceEqDiff, true_and, and_true, true_or, or_true, false_or, or_false, ite_true, ite_false, le]
    | succ d ih =>
      intro j hj
      have nle : ¬ (10 : Int32) ≤ nI j := by rw [li10]; exact nI_ge (by omega) (by decide)
      rw [← ih (j + 1) (by omega), e45_113]
      simp only [e45_0, e45_3, e45_4, e45_5, e45_6, e45_7, e45_9, e45_12, e45_13, e45_16, e45_17, e45_18, e45_19, e45_22, e45_23, e45_24, e45_25, e45_28, e45_31, e45_32, e45_33, e45_34, e45_36, e45_39, e45_40, e45_43, e45_44, e45_45, e45_46, e45_49, e45_50, e45_51, e45_54, e45_55, e45_56, e45_59, e45_60, e45_61, e45_62, e45_63, e45_66, e45_69, e45_70, e45_71, e45_72, e45_73, e45_74, e45_77, e45_80, e45_81, e45_83, e45_85, e45_86, e45_89, e45_90, e45_93, e45_94, e45_95, e45_96, e45_98, e45_101, e45_102, e45_103, e45_104, e45_107, e45_110, e45_111, e45_115, e45_117, e45_120, e45_121, e45_124, e45_125, e45_126, e45_127, e45_129, e45_132, e45_133, e45_134, e45_135, e45_138, e45_144, e45_147, e45_148, e45_151, e45_152, e45_153, e45_156, e45_157, e45_158, eq_self, kcat_nil, kcat_int, kcat_long, kcat_ref, kNL_int, kNL_ref, kNL_null, Option.toList_some, Option.toList_none, List.nil_append, List.cons_append, Nat.reduceAdd, Nat.reduceLeDiff, Nat.reduceEqDiff, true_and, and_true, true_or, or_true, false_or, or_false, ite_true, ite_false, nle, tp5, x_on hI hX ht (show j ≤ 9 by omega), nI_add1, tlD]
  have loopE : ∀ d t, t + d = S.1 24 + 1 → ∀ v4, kNL v4 = true → kE 45 71 [.ref 0, .long (tlE S.1 t), .null, .int (nI t), v4] [] M Q = Q (some (.long (taleV S.1))) M := by
    intro d
    induction d with
    | zero =>
      intro t ht v4 h4
      have : t = S.1 24 + 1 := by omega
      subst this
      have lt : nI (S.1 24) < nI (S.1 24 + 1) := (nI_lt_iff (by omega) (by omega)).mpr (by omega)
      rw [e45_71]
      simp only [e45_0, e45_3, e45_4, e45_5, e45_6, e45_7, e45_9, e45_12, e45_13, e45_16, e45_17, e45_18, e45_19, e45_22, e45_23, e45_24, e45_25, e45_28, e45_31, e45_32, e45_33, e45_34, e45_36, e45_39, e45_40, e45_43, e45_44, e45_45, e45_46, e45_49, e45_50, e45_51, e45_54, e45_55, e45_56, e45_59, e45_60, e45_61, e45_62, e45_63, e45_66, e45_69, e45_70, e45_72, e45_73, e45_74, e45_77, e45_80, e45_81, e45_83, e45_85, e45_86, e45_89, e45_90, e45_93, e45_94, e45_95, e45_96, e45_98, e45_101, e45_102, e45_103, e45_104, e45_107, e45_110, e45_111, e45_113, e45_115, e45_117, e45_120, e45_121, e45_124, e45_125, e45_126, e45_127, e45_129, e45_132, e45_133, e45_134, e45_135, e45_138, e45_141, e45_144, e45_147, e45_148, e45_151, e45_152, e45_153, e45_156, e45_157, e45_158, eq_self, kcat_nil, kcat_int, kcat_long, kcat_ref, kNL_int, kNL_ref, kNL_null, Option.toList_some, Option.toList_none, List.nil_append, List.cons_append, Nat.reduceAdd, Nat.reduceLeDiff, Nat.reduceEqDiff, true_and, and_true, true_or, or_true, false_or, or_false, ite_true, ite_false, tp5, x_count hI hX, cnt_0, lt, x_loss hI hX, taleV]
    | succ d ih =>
      intro t ht v4 h4
      have nlt : ¬ nI (S.1 24) < nI t := nI_nlt (by omega) (by omega)
      rw [← ih (t + 1) (by omega) (.int (nI 10)) rfl, e45_71]
      simp only [e45_0, e45_3, e45_4, e45_5, e45_6, e45_7, e45_9, e45_12, e45_13, e45_16, e45_17, e45_18, e45_19, e45_22, e45_23, e45_24, e45_25, e45_28, e45_31, e45_32, e45_33, e45_34, e45_36, e45_39, e45_40, e45_43, e45_44, e45_45, e45_46, e45_49, e45_50, e45_51, e45_54, e45_55, e45_56, e45_59, e45_60, e45_61, e45_62, e45_63, e45_66, e45_69, e45_70, e45_72, e45_73, e45_74, e45_77, e45_80, e45_81, e45_85, e45_86, e45_89, e45_90, e45_93, e45_94, e45_95, e45_96, e45_98, e45_101, e45_102, e45_103, e45_104, e45_107, e45_111, e45_115, e45_117, e45_120, e45_121, e45_124, e45_125, e45_126, e45_127, e45_129, e45_132, e45_133, e45_134, e45_135, e45_138, e45_144, e45_147, e45_148, e45_151, e45_152, e45_153, e45_156, e45_157, e45_158, eq_self, kcat_nil, kcat_int, kcat_long, kcat_ref, kNL_int, kNL_ref, kNL_null, Option.toList_some, Option.toList_none, List.nil_append, List.cons_append, Nat.reduceAdd, Nat.reduceLeDiff, Nat.reduceEqDiff, true_and, and_true, true_or, or_true, false_or, or_false, ite_true, ite_false, tp5, x_count hI hX, cnt_0, nlt]
      have c := loopC t (by omega) (tlE S.1 t) 5 0 rfl
      have e := loopD t (by omega) (tlC S.1 t (tlE S.1 t) 5) 10 0 rfl
      rw [show tlC S.1 t (tlE S.1 t) 0 = tlE S.1 t from rfl, nI_0'] at c
      rw [show tlD S.1 t (tlC S.1 t (tlE S.1 t) 5) 0 = tlC S.1 t (tlE S.1 t) 5 from rfl, nI_0'] at e
      rw [c, e45_110]
      simp only [e45_0, e45_3, e45_4, e45_5, e45_6, e45_7, e45_9, e45_12, e45_13, e45_16, e45_17, e45_18, e45_19, e45_22, e45_23, e45_24, e45_25, e45_28, e45_31, e45_32, e45_33, e45_34, e45_36, e45_39, e45_40, e45_43, e45_44, e45_45, e45_46, e45_49, e45_50, e45_51, e45_54, e45_55, e45_56, e45_59, e45_60, e45_61, e45_62, e45_63, e45_66, e45_69, e45_70, e45_72, e45_73, e45_74, e45_77, e45_80, e45_81, e45_85, e45_86, e45_89, e45_90, e45_93, e45_94, e45_95, e45_96, e45_98, e45_101, e45_102, e45_103, e45_104, e45_107, e45_111, e45_115, e45_117, e45_120, e45_121, e45_124, e45_125, e45_126, e45_127, e45_129, e45_132, e45_133, e45_134, e45_135, e45_138, e45_144, e45_147, e45_148, e45_151, e45_152, e45_153, e45_156, e45_157, e45_158, eq_self, kcat_nil, kcat_int, kcat_long, kcat_ref, kNL_int, kNL_ref, kNL_null, Option.toList_some, Option.toList_none, List.nil_append, List.cons_append, Nat.reduceAdd, Nat.reduceLeDiff, Nat.reduceEqDiff, true_and, and_true, true_or, or_true, false_or, or_false, ite_true, ite_false]
      rw [e, e45_141]
      simp only [e45_0, e45_3, e45_4, e45_5, e45_6, e45_7, e45_9, e45_12, e45_13, e45_16, e45_17, e45_18, e45_19, e45_22, e45_23, e45_24, e45_25, e45_28, e45_31, e45_32, e45_33, e45_34, e45_36, e45_39, e45_40, e45_43, e45_44, e45_45, e45_46, e45_49, e45_50, e45_51, e45_54, e45_55, e45_56, e45_59, e45_60, e45_61, e45_62, e45_63, e45_66, e45_69, e45_70, e45_72, e45_73, e45_74, e45_77, e45_80, e45_81, e45_85, e45_86, e45_89, e45_90, e45_93, e45_94, e45_95, e45_96, e45_98, e45_101, e45_102, e45_103, e45_104, e45_107, e45_111, e45_115, e45_117, e45_120, e45_121, e45_124, e45_125, e45_126, e45_127, e45_129, e45_132, e45_133, e45_134, e45_135, e45_138, e45_144, e45_147, e45_148, e45_151, e45_152, e45_153, e45_156, e45_157, e45_158, eq_self, kcat_nil, kcat_int, kcat_long, kcat_ref, kNL_int, kNL_ref, kNL_null, Option.toList_some, Option.toList_none, List.nil_append, List.cons_append, Nat.reduceAdd, Nat.reduceLeDiff, Nat.reduceEqDiff, true_and, and_true, true_or, or_true, false_or, or_false, ite_true, ite_false, nI_add1, tlE]
  rw [← loopE (S.1 24 + 1) 0 (by omega) .null rfl]
  have a := loopA 8 0 rfl
  have b := loopB 10 0 rfl
  rw [show tlA S.1 0 = 3 from rfl, nI_0'] at a
  rw [show tlB S.1 0 = tlA S.1 8 from rfl, nI_0'] at b
  simp only [e45_0, e45_3, e45_4, e45_5, e45_7, e45_9, e45_12, e45_13, e45_16, e45_17, e45_18, e45_19, e45_22, e45_23, e45_24, e45_25, e45_28, e45_32, e45_34, e45_36, e45_39, e45_40, e45_43, e45_44, e45_45, e45_46, e45_49, e45_50, e45_51, e45_54, e45_55, e45_56, e45_59, e45_60, e45_61, e45_62, e45_63, e45_66, e45_70, e45_72, e45_73, e45_74, e45_77, e45_80, e45_81, e45_83, e45_85, e45_86, e45_89, e45_90, e45_93, e45_94, e45_95, e45_96, e45_98, e45_101, e45_102, e45_103, e45_104, e45_107, e45_110, e45_111, e45_113, e45_115, e45_117, e45_120, e45_121, e45_124, e45_125, e45_126, e45_127, e45_129, e45_132, e45_133, e45_134, e45_135, e45_138, e45_141, e45_144, e45_147, e45_148, e45_151, e45_152, e45_153, e45_156, e45_157, e45_158, eq_self, kcat_nil, kcat_int, kcat_long, kcat_ref, kNL_int, kNL_ref, kNL_null, Option.toList_some, Option.toList_none, List.nil_append, List.cons_append, Nat.reduceAdd, Nat.reduceLeDiff, Nat.reduceEqDiff, true_and, and_true, true_or, or_true, false_or, or_false, ite_true, ite_false]
  rw [a, e45_31]
  simp only [e45_0, e45_3, e45_4, e45_5, e45_7, e45_9, e45_12, e45_13, e45_16, e45_17, e45_18, e45_19, e45_22, e45_23, e45_24, e45_25, e45_28, e45_32, e45_34, e45_36, e45_39, e45_40, e45_43, e45_44, e45_45, e45_46, e45_49, e45_50, e45_51, e45_54, e45_55, e45_56, e45_59, e45_60, e45_61, e45_62, e45_63, e45_66, e45_70, e45_72, e45_73, e45_74, e45_77, e45_80, e45_81, e45_83, e45_85, e45_86, e45_89, e45_90, e45_93, e45_94, e45_95, e45_96, e45_98, e45_101, e45_102, e45_103, e45_104, e45_107, e45_110, e45_111, e45_113, e45_115, e45_117, e45_120, e45_121, e45_124, e45_125, e45_126, e45_127, e45_129, e45_132, e45_133, e45_134, e45_135, e45_138, e45_141, e45_144, e45_147, e45_148, e45_151, e45_152, e45_153, e45_156, e45_157, e45_158, eq_self, kcat_nil, kcat_int, kcat_long, kcat_ref, kNL_int, kNL_ref, kNL_null, Option.toList_some, Option.toList_none, List.nil_append, List.cons_append, Nat.reduceAdd, Nat.reduceLeDiff, Nat.reduceEqDiff, true_and, and_true, true_or, or_true, false_or, or_false, ite_true, ite_false]
  rw [b, e45_69]
  simp only [e45_0, e45_3, e45_4, e45_5, e45_7, e45_9, e45_12, e45_13, e45_16, e45_17, e45_18, e45_19, e45_22, e45_23, e45_24, e45_25, e45_28, e45_32, e45_34, e45_36, e45_39, e45_40, e45_43, e45_44, e45_45, e45_46, e45_49, e45_50, e45_51, e45_54, e45_55, e45_56, e45_59, e45_60, e45_61, e45_62, e45_63, e45_66, e45_70, e45_72, e45_73, e45_74, e45_77, e45_80, e45_81, e45_83, e45_85, e45_86, e45_89, e45_90, e45_93, e45_94, e45_95, e45_96, e45_98, e45_101, e45_102, e45_103, e45_104, e45_107, e45_110, e45_111, e45_113, e45_115, e45_117, e45_120, e45_121, e45_124, e45_125, e45_126, e45_127, e45_129, e45_132, e45_133, e45_134, e45_135, e45_138, e45_141, e45_144, e45_147, e45_148, e45_151, e45_152, e45_153, e45_156, e45_157, e45_158, eq_self, kcat_nil, kcat_int, kcat_long, kcat_ref, kNL_int, kNL_ref, kNL_null, Option.toList_some, Option.toList_none, List.nil_append, List.cons_append, Nat.reduceAdd, Nat.reduceLeDiff, Nat.reduceEqDiff, true_and, and_true, true_or, or_true, false_or, or_false, ite_true, ite_false, nI_0', tlE]
