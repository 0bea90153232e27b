/-! forecasts -/
theorem XR.off21 {S : KS} {M M' : KMem} (h : XR S M) (h' : Off 21 M M') : XR S M' := by
  obtain ⟨h1, ⟨q, q6, hq, hs⟩, h3, h4, h5, h6, h7⟩ := h
  exact ⟨h1.off (fun c _ _ => h' c (by omega)), ⟨q, q6, by rw [h' 0 (by omega)]; exact hq, fun j hj => (hs j hj).off (fun c _ _ => h' c (by omega))⟩, by rw [h' 0 (by omega)]; exact h3, h4, by rw [h' 162 (by omega)]; exact h5, h6, fun i hi => by rw [h' 163 (by omega)]; exact h7 i hi⟩
theorem y_keeps {M : KMem} {p : NR} {Q : Option Value → KMem → Prop} (hR : RowM M p) (hQ : ∀ M', (∀ i, i < 137 → M' 170 i = nI (p i)) → (∀ c, c ≠ 170 → M' c = M c) → Q none M') : kE 114 0 [.ref 166, .null] [] M Q := by
  have loop : ∀ d j, j + d = 137 → ∀ M1, (∀ i, i < j → M1 170 i = nI (p i)) → (∀ c, c ≠ 170 → M1 c = M c) → kE 114 2 [.ref 166, .int (nI j)] [] M1 Q := by
    intro d
    induction d with
    | zero =>
      intro j hj M1 h hO
      have : j = 137 := by omega
      subst this
      have le : (137 : Int32) ≤ nI 137 := by decide
      rw [e114_2]
      simp only [e114_0, e114_1, e114_3, e114_6, e114_9, e114_10, e114_13, e114_14, e114_15, e114_18, e114_19, e114_20, e114_21, e114_24, e114_27, eq_self, kcat_nil, kcat_int, kcat_long, kcat_ref, kNL_int, kNL_ref, kNL_null, Option.toList_some, Option.toList_none, List.nil_append, List.cons_append, Nat.reduceAdd, Nat.reduceLeDiff, Nat.reduceEqDiff, true_and, and_true, true_or, or_true, false_or, or_false, ite_true, ite_false, le]
      exact hQ M1 h hO
    | succ d ih =>
      intro j hj M1 h hO
      have nle : ¬ (137 : Int32) ≤ nI j := by rw [li137]; exact nI_ge (by omega) (by decide)
      have r : M1 167 j = nI (p j) := by rw [hO 167 (by decide)]; exact hR j (by omega)
      rw [e114_2]
      simp only [e114_0, e114_1, e114_3, e114_6, e114_9, e114_10, e114_13, e114_14, e114_15, e114_18, e114_19, e114_20, e114_21, e114_24, e114_27, eq_self, kcat_nil, kcat_int, kcat_long, kcat_ref, kNL_int, kNL_ref, kNL_null, Option.toList_some, Option.toList_none, List.nil_append, List.cons_append, Nat.reduceAdd, Nat.reduceLeDiff, Nat.reduceEqDiff, true_and, and_true, true_or, or_true, false_or, or_false, ite_true, ite_false, nle, if_false, my1, my2, my5, my7, my10, my12, my15, nI_add1, kin_nI (show j < 137 by omega) (by decide), clN (show j < 2 ^ 31 by omega), r]
      refine ih (j + 1) (by omega) _ (fun i hi => ?_) (fun c hc => by rw [mset_off hc]; exact hO c hc)
      by_cases h1 : i = j
      · rw [h1]; exact mset_eq _ _ _ _
      · rw [mset_ne (by omega)]; exact h i (by omega)
  simp only [e114_0, e114_1, e114_3, e114_6, e114_9, e114_10, e114_13, e114_14, e114_15, e114_18, e114_19, e114_20, e114_21, e114_24, e114_27, eq_self, kcat_nil, kcat_int, kcat_long, kcat_ref, kNL_int, kNL_ref, kNL_null, Option.toList_some, Option.toList_none, List.nil_append, List.cons_append, Nat.reduceAdd, Nat.reduceLeDiff, Nat.reduceEqDiff, true_and, and_true, true_or, or_true, false_or, or_false, ite_true, ite_false]
  exact loop 137 0 rfl M (fun i hi => by omega) (fun _ _ => rfl)
theorem y_restores {M : KMem} {p : NR} {Q : Option Value → KMem → Prop} (hK : ∀ i, i < 137 → M 170 i = nI (p i)) (hQ : ∀ M', RowM M' p → OffY M M' → Q none M') : kE 115 0 [.ref 166, .null] [] M Q := by
  have loop : ∀ d j, j + d = 137 → ∀ M1, (∀ i, i < j → M1 167 i = nI (p i)) → OffY M M1 → kE 115 2 [.ref 166, .int (nI j)] [] M1 Q := by
    intro d
    induction d with
    | zero =>
      intro j hj M1 h hO
      have : j = 137 := by omega
      subst this
      have le : (137 : Int32) ≤ nI 137 := by decide
      rw [e115_2]
      simp only [e115_0, e115_1, e115_3, e115_6, e115_9, e115_10, e115_13, e115_14, e115_15, e115_18, e115_19, e115_20, e115_21, e115_24, e115_27, eq_self, kcat_nil, kcat_int, kcat_long, kcat_ref, kNL_int, kNL_ref, kNL_null, Option.toList_some, Option.toList_none, List.nil_append, List.cons_append, Nat.reduceAdd, Nat.reduceLeDiff, Nat.reduceEqDiff, true_and, and_true, true_or, or_true, false_or, or_false, ite_true, ite_false, le]
      exact hQ M1 h hO
    | succ d ih =>
      intro j hj M1 h hO
      have nle : ¬ (137 : Int32) ≤ nI j := by rw [li137]; exact nI_ge (by omega) (by decide)
      have r : M1 170 j = nI (p j) := by rw [hO 170 (by decide)]; exact hK j (by omega)
      rw [e115_2]
      simp only [e115_0, e115_1, e115_3, e115_6, e115_9, e115_10, e115_13, e115_14, e115_15, e115_18, e115_19, e115_20, e115_21, e115_24, e115_27, eq_self, kcat_nil, kcat_int, kcat_long, kcat_ref, kNL_int, kNL_ref, kNL_null, Option.toList_some, Option.toList_none, List.nil_append, List.cons_append, Nat.reduceAdd, Nat.reduceLeDiff, Nat.reduceEqDiff, true_and, and_true, true_or, or_true, false_or, or_false, ite_true, ite_false, nle, if_false, my1, my2, my5, my7, my10, my12, my15, nI_add1, kin_nI (show j < 137 by omega) (by decide), clN (show j < 2 ^ 31 by omega), r]
      refine ih (j + 1) (by omega) _ (fun i hi => ?_) (hO.set _ _)
      by_cases h1 : i = j
      · rw [h1]; exact mset_eq _ _ _ _
      · rw [mset_ne (by omega)]; exact h i (by omega)
  simp only [e115_0, e115_1, e115_3, e115_6, e115_9, e115_10, e115_13, e115_14, e115_15, e115_18, e115_19, e115_20, e115_21, e115_24, e115_27, eq_self, kcat_nil, kcat_int, kcat_long, kcat_ref, kNL_int, kNL_ref, kNL_null, Option.toList_some, Option.toList_none, List.nil_append, List.cons_append, Nat.reduceAdd, Nat.reduceLeDiff, Nat.reduceEqDiff, true_and, and_true, true_or, or_true, false_or, or_false, ite_true, ite_false]
  exact loop 137 0 rfl M (fun i hi => by omega) OffY.rfl'
theorem YR.keep {S : KS} {M M' : KMem} (h : YR S M) (h' : ∀ c, c ≠ 167 → c ≠ 170 → M' c = M c) (hp : RowM M' S.1) : YR S M' := by
  obtain ⟨h1, h2, h3, h4, h5, h6, h7⟩ := h
  exact ⟨hp, by rw [h' 166 (by decide) (by decide)]; exact h2, h3, fun j hj i hi => by rw [h' 168 (by decide) (by decide)]; exact h4 j hj i hi, by rw [h' 166 (by decide) (by decide)]; exact h5, h6, fun i hi => by rw [h' 169 (by decide) (by decide)]; exact h7 i hi⟩
def toN (p : NR) (f : Nat) : Nat → Nat → Int32
  | 0, _ => -9
  | d + 1, j => if minV (mN p j) < f then nI (j + 1) else toN p f d (j + 1)
theorem op_minutesTo (x : Int32) : OpOK 55 116 [.int x] := by
  intro S N hN hI
  have n10 : ¬ (1 : Int32) = 0 := by decide
  have z := z49 hI.1
  rcases rng x 1 9999 (by decide) (by decide) with h | ⟨f, f1, f2, rfl⟩
  · have h' : ¬ (1 ≤ x ∧ x ≤ 9999) := h
    refine ⟨-1, S, hI.mono, fun M Q hX hQ => ?_, fun M Q hY hQ => ?_⟩
    · show kE 55 0 [.ref 0, .int x, .null] [] M Q
      simp only [e55_0, e55_1, e55_2, e55_5, e55_8, e55_11, e55_12, e55_13, e55_14, e55_17, e55_20, e55_23, e55_25, e55_26, e55_27, e55_30, e55_31, e55_34, e55_37, e55_38, e55_40, e55_43, e55_46, e55_47, e55_50, e55_53, e55_54, e55_57, e55_58, e55_59, e55_62, e55_65, e55_67, eq_self, kcat_nil, kcat_int, kcat_long, kcat_ref, kNL_int, kNL_ref, kNL_null, Option.toList_some, Option.toList_none, List.nil_append, List.cons_append, Nat.reduceAdd, Nat.reduceLeDiff, Nat.reduceEqDiff, true_and, and_true, true_or, or_true, false_or, or_false, ite_true, ite_false, x_isIn, h', if_false, not_true_eq_false]
      exact hQ M hX Fx.rfl'
    · show kE 116 0 [.ref 166, .int x, .null, .null] [] M Q
      simp only [e116_0, e116_1, e116_2, e116_5, e116_8, e116_11, e116_12, e116_13, e116_14, e116_17, e116_19, e116_20, e116_23, e116_25, e116_26, e116_27, e116_30, e116_32, e116_33, e116_34, e116_36, e116_39, e116_42, e116_43, e116_45, e116_48, e116_49, e116_52, e116_53, e116_56, e116_57, e116_60, e116_62, e116_63, e116_66, e116_69, e116_70, e116_73, e116_74, eq_self, kcat_nil, kcat_int, kcat_long, kcat_ref, kNL_int, kNL_ref, kNL_null, Option.toList_some, Option.toList_none, List.nil_append, List.cons_append, Nat.reduceAdd, Nat.reduceLeDiff, Nat.reduceEqDiff, true_and, and_true, true_or, or_true, false_or, or_false, ite_true, ite_false, y_in, h', if_false, not_true_eq_false]
      exact hQ M hY Fy.rfl'
  have c : (1 : Int32) ≤ nI f ∧ nI f ≤ 9999 := rng_in (lo := 1) (hi := 9999) f1 f2 (by decide)
  by_cases h49 : S.1 49 = 0
  · refine ⟨-2, S, hI.mono, fun M Q hX hQ => ?_, fun M Q hY hQ => ?_⟩
    · show kE 55 0 [.ref 0, .int (nI f), .null] [] M Q
      have e2 : M 1 10 = nI (S.1 49) := hX.1.f49
      simp only [e55_0, e55_1, e55_2, e55_5, e55_8, e55_11, e55_12, e55_13, e55_14, e55_17, e55_20, e55_23, e55_25, e55_26, e55_27, e55_30, e55_31, e55_34, e55_37, e55_38, e55_40, e55_43, e55_46, e55_47, e55_50, e55_53, e55_54, e55_57, e55_58, e55_59, e55_62, e55_65, e55_67, eq_self, kcat_nil, kcat_int, kcat_long, kcat_ref, kNL_int, kNL_ref, kNL_null, Option.toList_some, Option.toList_none, List.nil_append, List.cons_append, Nat.reduceAdd, Nat.reduceLeDiff, Nat.reduceEqDiff, true_and, and_true, true_or, or_true, false_or, or_false, ite_true, ite_false, tp1, tp5, tp18, e2, c, x_isIn, and_self, n10, not_false_eq_true, z, h49, if_false, not_true_eq_false]
      exact hQ M hX Fx.rfl'
    · show kE 116 0 [.ref 166, .int (nI f), .null, .null] [] M Q
      have r49 : M 167 49 = nI (S.1 49) := hY.1 49 (by decide)
      simp only [e116_0, e116_1, e116_2, e116_5, e116_8, e116_11, e116_12, e116_13, e116_14, e116_17, e116_19, e116_20, e116_23, e116_25, e116_26, e116_27, e116_30, e116_32, e116_33, e116_34, e116_36, e116_39, e116_42, e116_43, e116_45, e116_48, e116_49, e116_52, e116_53, e116_56, e116_57, e116_60, e116_62, e116_63, e116_66, e116_69, e116_70, e116_73, e116_74, eq_self, kcat_nil, kcat_int, kcat_long, kcat_ref, kNL_int, kNL_ref, kNL_null, Option.toList_some, Option.toList_none, List.nil_append, List.cons_append, Nat.reduceAdd, Nat.reduceLeDiff, Nat.reduceEqDiff, true_and, and_true, true_or, or_true, false_or, or_false, ite_true, ite_false, my1, my2, my7, my12, c, y_in, and_self, n10, not_false_eq_true, li49, kin_nI (show 49 < 137 by decide) (by decide), clN (show 49 < 2 ^ 31 by decide), r49, z, h49, if_false, not_true_eq_false]
      exact hQ M hY Fy.rfl'
  have hm := m_MInv hI.1.m0
  refine ⟨toN S.1 f 500 0, S, hI.mono, fun M Q hX hQ => ?_, fun M Q hY hQ => ?_⟩
  · show kE 55 0 [.ref 0, .int (nI f), .null] [] M Q
    have e2 : M 1 10 = nI (S.1 49) := hX.1.f49
    simp only [e55_0, e55_1, e55_2, e55_5, e55_8, e55_11, e55_12, e55_13, e55_14, e55_17, e55_20, e55_23, e55_25, e55_26, e55_27, e55_30, e55_31, e55_34, e55_38, e55_39, e55_40, e55_43, e55_46, e55_47, e55_50, e55_53, e55_54, e55_57, e55_58, e55_59, e55_62, e55_65, e55_67, eq_self, kcat_nil, kcat_int, kcat_long, kcat_ref, kNL_int, kNL_ref, kNL_null, Option.toList_some, Option.toList_none, List.nil_append, List.cons_append, Nat.reduceAdd, Nat.reduceLeDiff, Nat.reduceEqDiff, true_and, and_true, true_or, or_true, false_or, or_false, ite_true, ite_false, tp1, tp2, tp5, tp18, tp19, e2, c, x_isIn, and_self, n10, not_false_eq_true, z, h49, if_false]
    refine x_copyFrom st21 st1 (by decide) hX.1 (nI_01 hI.1.f49) (fun M1 hR1 hO1 => ?_)
    have loop : ∀ d j, j + d = 500 → ∀ M3, StR 21 M3 (nr (mN S.1 j)) → Off 21 M M3 → (∀ M', Off 21 M M' → Q (some (.int (toN S.1 f d j))) M') → kE 55 39 [.ref 0, .int (nI f), .int (nI (j + 1))] [] M3 Q := by
      intro d
      induction d with
      | zero =>
        intro j hj M3 hR3 hO3 hQ'
        have : j = 500 := by omega
        subst this
        have lt : (500 : Int32) < nI (500 + 1) := by decide
        rw [e55_39]
        simp only [e55_0, e55_1, e55_2, e55_5, e55_8, e55_11, e55_12, e55_13, e55_14, e55_17, e55_20, e55_23, e55_25, e55_26, e55_27, e55_30, e55_31, e55_34, e55_37, e55_38, e55_40, e55_43, e55_46, e55_47, e55_50, e55_53, e55_54, e55_57, e55_58, e55_59, e55_62, e55_65, e55_67, eq_self, kcat_nil, kcat_int, kcat_long, kcat_ref, kNL_int, kNL_ref, kNL_null, Option.toList_some, Option.toList_none, List.nil_append, List.cons_append, Nat.reduceAdd, Nat.reduceLeDiff, Nat.reduceEqDiff, true_and, and_true, true_or, or_true, false_or, or_false, ite_true, ite_false, lt]
        exact hQ' _ hO3
      | succ d ih =>
        intro j hj M3 hR3 hO3 hQ'
        have nlt : ¬ (500 : Int32) < nI (j + 1) := by
          rw [show (500 : Int32) = nI 500 from rfl, nI_lt_iff (by decide) (by omega)]
          omega
        have hv := minV_le (hm j)
        have zv : (nI f ≤ nI (minV (mN S.1 j))) ↔ f ≤ minV (mN S.1 j) := nI_le_iff (by omega) (by omega)
        rw [e55_39]
        simp only [e55_0, e55_1, e55_2, e55_5, e55_8, e55_11, e55_12, e55_13, e55_14, e55_17, e55_20, e55_23, e55_25, e55_26, e55_27, e55_30, e55_31, e55_34, e55_37, e55_38, e55_40, e55_43, e55_46, e55_47, e55_50, e55_54, e55_57, e55_58, e55_59, e55_62, e55_65, e55_67, eq_self, kcat_nil, kcat_int, kcat_long, kcat_ref, kNL_int, kNL_ref, kNL_null, Option.toList_some, Option.toList_none, List.nil_append, List.cons_append, Nat.reduceAdd, Nat.reduceLeDiff, Nat.reduceEqDiff, true_and, and_true, true_or, or_true, false_or, or_false, ite_true, ite_false, nlt, if_false, tp2, tp5, tp19]
        refine x_minute st21 hR3 (hm j) (fun M4 hR4 hO4 => ?_)
        simp only [e55_0, e55_1, e55_2, e55_5, e55_8, e55_11, e55_12, e55_13, e55_14, e55_17, e55_20, e55_23, e55_25, e55_26, e55_27, e55_30, e55_31, e55_34, e55_37, e55_38, e55_40, e55_43, e55_46, e55_47, e55_50, e55_53, e55_54, e55_57, e55_58, e55_59, e55_62, e55_65, e55_67, eq_self, kcat_nil, kcat_int, kcat_long, kcat_ref, kNL_int, kNL_ref, kNL_null, Option.toList_some, Option.toList_none, List.nil_append, List.cons_append, Nat.reduceAdd, Nat.reduceLeDiff, Nat.reduceEqDiff, true_and, and_true, true_or, or_true, false_or, or_false, ite_true, ite_false, zv, nI_add1]
        rw [toN] at hQ'
        by_cases hlt : minV (mN S.1 j) < f
        · rw [if_neg (by omega)]
          rw [if_pos hlt] at hQ'
          exact hQ' _ (hO3.trans hO4)
        · rw [if_pos (by omega)]
          rw [if_neg hlt] at hQ'
          exact ih (j + 1) (by omega) M4 hR4 (hO3.trans hO4) hQ'
    simp only [e55_0, e55_1, e55_2, e55_5, e55_8, e55_11, e55_12, e55_13, e55_14, e55_17, e55_20, e55_23, e55_25, e55_26, e55_27, e55_30, e55_31, e55_34, e55_37, e55_38, e55_40, e55_43, e55_46, e55_47, e55_50, e55_53, e55_54, e55_57, e55_58, e55_59, e55_62, e55_65, e55_67, eq_self, kcat_nil, kcat_int, kcat_long, kcat_ref, kNL_int, kNL_ref, kNL_null, Option.toList_some, Option.toList_none, List.nil_append, List.cons_append, Nat.reduceAdd, Nat.reduceLeDiff, Nat.reduceEqDiff, true_and, and_true, true_or, or_true, false_or, or_false, ite_true, ite_false]
    exact loop 500 0 (by omega) M1 hR1 hO1 (fun M' h => hQ M' (hX.off21 h) (h.fx (by decide)))
  · show kE 116 0 [.ref 166, .int (nI f), .null, .null] [] M Q
    have r49 : M 167 49 = nI (S.1 49) := hY.1 49 (by decide)
    simp only [e116_0, e116_1, e116_2, e116_5, e116_8, e116_11, e116_12, e116_13, e116_14, e116_17, e116_19, e116_20, e116_23, e116_25, e116_26, e116_27, e116_32, e116_33, e116_34, e116_35, e116_36, e116_39, e116_42, e116_43, e116_45, e116_48, e116_49, e116_52, e116_53, e116_56, e116_57, e116_60, e116_62, e116_63, e116_66, e116_69, e116_70, e116_73, e116_74, eq_self, kcat_nil, kcat_int, kcat_long, kcat_ref, kNL_int, kNL_ref, kNL_null, Option.toList_some, Option.toList_none, List.nil_append, List.cons_append, Nat.reduceAdd, Nat.reduceLeDiff, Nat.reduceEqDiff, true_and, and_true, true_or, or_true, false_or, or_false, ite_true, ite_false, my1, my2, my7, my12, c, y_in, and_self, n10, not_false_eq_true, li49, kin_nI (show 49 < 137 by decide) (by decide), clN (show 49 < 2 ^ 31 by decide), r49, z, h49, if_false]
    refine y_keeps hY.1 (fun M1 hK1 hO1 => ?_)
    have n9 : ∀ j, j ≤ 500 → ¬ nI j = -9 := fun j hj e => by
      have e := congrArg Int32.toInt e
      rw [nI_toInt (by omega)] at e
      have e2 : (-9 : Int32).toInt = -9 := rfl
      omega
    have fin : ∀ (r : Int32) (k : Int32) M3, OffY M1 M3 → Q = Q → (∀ M', YR S M' → Fy M M' → Q (some (.int r)) M') → kE 116 69 [.ref 166, .int (nI f), .int r, .int k] [] M3 Q := by
      intro r k M3 hO3 _ hQ'
      rw [e116_69]
      simp only [e116_0, e116_1, e116_2, e116_5, e116_8, e116_11, e116_12, e116_13, e116_14, e116_17, e116_19, e116_20, e116_23, e116_25, e116_26, e116_27, e116_30, e116_32, e116_33, e116_34, e116_35, e116_36, e116_39, e116_42, e116_43, e116_45, e116_48, e116_49, e116_52, e116_53, e116_56, e116_57, e116_60, e116_62, e116_63, e116_66, e116_70, e116_74, eq_self, kcat_nil, kcat_int, kcat_long, kcat_ref, kNL_int, kNL_ref, kNL_null, Option.toList_some, Option.toList_none, List.nil_append, List.cons_append, Nat.reduceAdd, Nat.reduceLeDiff, Nat.reduceEqDiff, true_and, and_true, true_or, or_true, false_or, or_false, ite_true, ite_false, my1]
      refine y_restores (p := S.1) (fun i hi => by rw [hO3 170 (by decide)]; exact hK1 i hi) (fun M4 hR4 hO4 => ?_)
      simp only [e116_0, e116_1, e116_2, e116_5, e116_8, e116_11, e116_12, e116_13, e116_14, e116_17, e116_19, e116_20, e116_23, e116_25, e116_26, e116_27, e116_30, e116_32, e116_33, e116_34, e116_35, e116_36, e116_39, e116_42, e116_43, e116_45, e116_48, e116_49, e116_52, e116_53, e116_56, e116_57, e116_60, e116_62, e116_63, e116_66, e116_70, e116_73, e116_74, eq_self, kcat_nil, kcat_int, kcat_long, kcat_ref, kNL_int, kNL_ref, kNL_null, Option.toList_some, Option.toList_none, List.nil_append, List.cons_append, Nat.reduceAdd, Nat.reduceLeDiff, Nat.reduceEqDiff, true_and, and_true, true_or, or_true, false_or, or_false, ite_true, ite_false]
      refine hQ' M4 (hY.keep (fun c c1 c2 => by rw [hO4 c c1, hO3 c c1, hO1 c c2]) hR4) (fun c hc => by rw [hO4 c (by omega), hO3 c (by omega), hO1 c (by omega)])
    have loop : ∀ d j, j + d = 500 → ∀ M3, RowM M3 (mN S.1 j) → OffY M1 M3 → (∀ M', YR S M' → Fy M M' → Q (some (.int (toN S.1 f d j))) M') → kE 116 35 [.ref 166, .int (nI f), .int (-9), .int (nI (j + 1))] [] M3 Q := by
      intro d
      induction d with
      | zero =>
        intro j hj M3 hR3 hO3 hQ'
        have : j = 500 := by omega
        subst this
        have lt : (500 : Int32) < nI (500 + 1) := by decide
        rw [e116_35]
        simp only [e116_0, e116_1, e116_2, e116_5, e116_8, e116_11, e116_12, e116_13, e116_14, e116_17, e116_19, e116_20, e116_23, e116_25, e116_26, e116_27, e116_30, e116_32, e116_33, e116_34, e116_36, e116_39, e116_42, e116_43, e116_45, e116_48, e116_49, e116_52, e116_53, e116_56, e116_57, e116_60, e116_62, e116_63, e116_66, e116_70, e116_73, e116_74, eq_self, kcat_nil, kcat_int, kcat_long, kcat_ref, kNL_int, kNL_ref, kNL_null, Option.toList_some, Option.toList_none, List.nil_append, List.cons_append, Nat.reduceAdd, Nat.reduceLeDiff, Nat.reduceEqDiff, true_and, and_true, true_or, or_true, false_or, or_false, ite_true, ite_false, lt]
        exact fin _ _ M3 hO3 rfl hQ'
      | succ d ih =>
        intro j hj M3 hR3 hO3 hQ'
        have nlt : ¬ (500 : Int32) < nI (j + 1) := by
          rw [show (500 : Int32) = nI 500 from rfl, nI_lt_iff (by decide) (by omega)]
          omega
        have hv := minV_le (hm j)
        have zv : (nI f ≤ nI (minV (mN S.1 j))) ↔ f ≤ minV (mN S.1 j) := nI_le_iff (by omega) (by omega)
        rw [e116_35]
        simp only [e116_0, e116_1, e116_2, e116_5, e116_8, e116_11, e116_12, e116_13, e116_14, e116_17, e116_19, e116_20, e116_23, e116_25, e116_26, e116_27, e116_30, e116_32, e116_33, e116_34, e116_36, e116_39, e116_42, e116_43, e116_45, e116_48, e116_49, e116_53, e116_56, e116_57, e116_60, e116_62, e116_63, e116_66, e116_70, e116_73, e116_74, eq_self, kcat_nil, kcat_int, kcat_long, kcat_ref, kNL_int, kNL_ref, kNL_null, Option.toList_some, Option.toList_none, List.nil_append, List.cons_append, Nat.reduceAdd, Nat.reduceLeDiff, Nat.reduceEqDiff, true_and, and_true, true_or, or_true, false_or, or_false, ite_true, ite_false, nlt, if_false, my1, not_true_eq_false]
        refine y_minute hR3 (hm j) (fun M4 hR4 hO4 => ?_)
        simp only [e116_0, e116_1, e116_2, e116_5, e116_8, e116_11, e116_12, e116_13, e116_14, e116_17, e116_19, e116_20, e116_23, e116_25, e116_26, e116_27, e116_30, e116_32, e116_33, e116_34, e116_36, e116_39, e116_42, e116_43, e116_45, e116_48, e116_49, e116_52, e116_53, e116_56, e116_57, e116_60, e116_63, e116_66, e116_69, e116_70, e116_73, e116_74, eq_self, kcat_nil, kcat_int, kcat_long, kcat_ref, kNL_int, kNL_ref, kNL_null, Option.toList_some, Option.toList_none, List.nil_append, List.cons_append, Nat.reduceAdd, Nat.reduceLeDiff, Nat.reduceEqDiff, true_and, and_true, true_or, or_true, false_or, or_false, ite_true, ite_false, zv]
        rw [toN] at hQ'
        by_cases hlt : minV (mN S.1 j) < f
        · rw [if_neg (by omega)]
          rw [if_pos hlt] at hQ'
          simp only [e116_0, e116_1, e116_2, e116_5, e116_8, e116_11, e116_12, e116_13, e116_14, e116_17, e116_19, e116_20, e116_23, e116_25, e116_26, e116_27, e116_30, e116_32, e116_33, e116_34, e116_36, e116_39, e116_42, e116_43, e116_45, e116_48, e116_49, e116_52, e116_53, e116_56, e116_57, e116_60, e116_62, e116_63, e116_66, e116_69, e116_70, e116_73, e116_74, eq_self, kcat_nil, kcat_int, kcat_long, kcat_ref, kNL_int, kNL_ref, kNL_null, Option.toList_some, Option.toList_none, List.nil_append, List.cons_append, Nat.reduceAdd, Nat.reduceLeDiff, Nat.reduceEqDiff, true_and, and_true, true_or, or_true, false_or, or_false, ite_true, ite_false, nI_add1]
          rw [e116_35]
          have n9' := n9 (j + 1) (by omega)
          simp only [e116_0, e116_1, e116_2, e116_5, e116_8, e116_11, e116_12, e116_13, e116_14, e116_17, e116_19, e116_20, e116_23, e116_25, e116_26, e116_27, e116_30, e116_32, e116_33, e116_34, e116_36, e116_39, e116_42, e116_43, e116_45, e116_48, e116_49, e116_52, e116_53, e116_56, e116_57, e116_60, e116_62, e116_63, e116_66, e116_70, e116_73, e116_74, eq_self, kcat_nil, kcat_int, kcat_long, kcat_ref, kNL_int, kNL_ref, kNL_null, Option.toList_some, Option.toList_none, List.nil_append, List.cons_append, Nat.reduceAdd, Nat.reduceLeDiff, Nat.reduceEqDiff, true_and, and_true, true_or, or_true, false_or, or_false, ite_true, ite_false, n9', not_false_eq_true]
          split
          · exact fin _ _ M4 (hO3.trans hO4) rfl hQ'
          · exact fin _ _ M4 (hO3.trans hO4) rfl hQ'
        · rw [if_pos (by omega)]
          rw [if_neg hlt] at hQ'
          simp only [e116_0, e116_1, e116_2, e116_5, e116_8, e116_11, e116_12, e116_13, e116_14, e116_17, e116_19, e116_20, e116_23, e116_25, e116_26, e116_27, e116_30, e116_32, e116_33, e116_34, e116_36, e116_39, e116_42, e116_43, e116_45, e116_48, e116_49, e116_52, e116_53, e116_56, e116_57, e116_60, e116_62, e116_63, e116_66, e116_69, e116_70, e116_73, e116_74, eq_self, kcat_nil, kcat_int, kcat_long, kcat_ref, kNL_int, kNL_ref, kNL_null, Option.toList_some, Option.toList_none, List.nil_append, List.cons_append, Nat.reduceAdd, Nat.reduceLeDiff, Nat.reduceEqDiff, true_and, and_true, true_or, or_true, false_or, or_false, ite_true, ite_false, nI_add1]
          exact ih (j + 1) (by omega) M4 hR4 (hO3.trans hO4) hQ'
    simp only [e116_0, e116_1, e116_2, e116_5, e116_8, e116_11, e116_12, e116_13, e116_14, e116_17, e116_19, e116_20, e116_23, e116_25, e116_26, e116_27, e116_30, e116_32, e116_33, e116_34, e116_36, e116_39, e116_42, e116_43, e116_45, e116_48, e116_49, e116_52, e116_53, e116_56, e116_57, e116_60, e116_62, e116_63, e116_66, e116_69, e116_70, e116_73, e116_74, eq_self, kcat_nil, kcat_int, kcat_long, kcat_ref, kNL_int, kNL_ref, kNL_null, Option.toList_some, Option.toList_none, List.nil_append, List.cons_append, Nat.reduceAdd, Nat.reduceLeDiff, Nat.reduceEqDiff, true_and, and_true, true_or, or_true, false_or, or_false, ite_true, ite_false]
    exact loop 500 0 (by omega) M1 (fun i hi => by rw [hO1 167 (by decide)]; exact hY.1 i hi) OffY.rfl' hQ
theorem op_dustIn (x : Int32) : OpOK 56 117 [.int x] := by
  intro S N hN hI
  have n10 : ¬ (1 : Int32) = 0 := by decide
  have z := z49 hI.1
  rcases rng x 1 500 (by decide) (by decide) with h | ⟨m, m1, m2, rfl⟩
  · have h' : ¬ (1 ≤ x ∧ x ≤ 500) := h
    refine ⟨-1, S, hI.mono, fun M Q hX hQ => ?_, fun M Q hY hQ => ?_⟩
    · show kE 56 0 [.ref 0, .int x, .null] [] M Q
      simp only [e56_0, e56_1, e56_2, e56_5, e56_8, e56_11, e56_12, e56_13, e56_14, e56_17, e56_20, e56_23, e56_25, e56_26, e56_27, e56_30, e56_31, e56_34, e56_37, e56_38, e56_40, e56_41, e56_44, e56_45, e56_48, e56_51, e56_52, e56_55, e56_58, e56_59, e56_62, e56_65, e56_66, e56_69, e56_72, e56_73, eq_self, kcat_nil, kcat_int, kcat_long, kcat_ref, kNL_int, kNL_ref, kNL_null, Option.toList_some, Option.toList_none, List.nil_append, List.cons_append, Nat.reduceAdd, Nat.reduceLeDiff, Nat.reduceEqDiff, true_and, and_true, true_or, or_true, false_or, or_false, ite_true, ite_false, x_isIn, h', if_false, not_true_eq_false]
      exact hQ M hX Fx.rfl'
    · show kE 117 0 [.ref 166, .int x, .null, .null, .null] [] M Q
      simp only [e117_0, e117_1, e117_2, e117_5, e117_8, e117_11, e117_12, e117_13, e117_14, e117_17, e117_19, e117_20, e117_23, e117_25, e117_26, e117_27, e117_30, e117_31, e117_34, e117_35, e117_36, e117_37, e117_38, e117_42, e117_43, e117_46, e117_47, e117_48, e117_51, e117_52, e117_53, e117_56, e117_59, e117_60, e117_63, e117_64, e117_65, e117_67, e117_68, e117_71, e117_72, e117_75, e117_76, e117_79, e117_81, eq_self, kcat_nil, kcat_int, kcat_long, kcat_ref, kNL_int, kNL_ref, kNL_null, Option.toList_some, Option.toList_none, List.nil_append, List.cons_append, Nat.reduceAdd, Nat.reduceLeDiff, Nat.reduceEqDiff, true_and, and_true, true_or, or_true, false_or, or_false, ite_true, ite_false, y_in, h', if_false, not_true_eq_false]
      exact hQ M hY Fy.rfl'
  have c : (1 : Int32) ≤ nI m ∧ nI m ≤ 500 := rng_in (lo := 1) (hi := 500) m1 m2 (by decide)
  by_cases h49 : S.1 49 = 0
  · refine ⟨-2, S, hI.mono, fun M Q hX hQ => ?_, fun M Q hY hQ => ?_⟩
    · show kE 56 0 [.ref 0, .int (nI m), .null] [] M Q
      have e2 : M 1 10 = nI (S.1 49) := hX.1.f49
      simp only [e56_0, e56_1, e56_2, e56_5, e56_8, e56_11, e56_12, e56_13, e56_14, e56_17, e56_20, e56_23, e56_25, e56_26, e56_27, e56_30, e56_31, e56_34, e56_37, e56_38, e56_40, e56_41, e56_44, e56_45, e56_48, e56_51, e56_52, e56_55, e56_58, e56_59, e56_62, e56_65, e56_66, e56_69, e56_72, e56_73, eq_self, kcat_nil, kcat_int, kcat_long, kcat_ref, kNL_int, kNL_ref, kNL_null, Option.toList_some, Option.toList_none, List.nil_append, List.cons_append, Nat.reduceAdd, Nat.reduceLeDiff, Nat.reduceEqDiff, true_and, and_true, true_or, or_true, false_or, or_false, ite_true, ite_false, tp1, tp5, tp18, e2, c, x_isIn, and_self, n10, not_false_eq_true, z, h49, if_false, not_true_eq_false]
      exact hQ M hX Fx.rfl'
    · show kE 117 0 [.ref 166, .int (nI m), .null, .null, .null] [] M Q
      have r49 : M 167 49 = nI (S.1 49) := hY.1 49 (by decide)
      simp only [e117_0, e117_1, e117_2, e117_5, e117_8, e117_11, e117_12, e117_13, e117_14, e117_17, e117_19, e117_20, e117_23, e117_25, e117_26, e117_27, e117_30, e117_31, e117_34, e117_35, e117_36, e117_37, e117_38, e117_42, e117_43, e117_46, e117_47, e117_48, e117_51, e117_52, e117_53, e117_56, e117_59, e117_60, e117_63, e117_64, e117_65, e117_67, e117_68, e117_71, e117_72, e117_75, e117_76, e117_79, e117_81, eq_self, kcat_nil, kcat_int, kcat_long, kcat_ref, kNL_int, kNL_ref, kNL_null, Option.toList_some, Option.toList_none, List.nil_append, List.cons_append, Nat.reduceAdd, Nat.reduceLeDiff, Nat.reduceEqDiff, true_and, and_true, true_or, or_true, false_or, or_false, ite_true, ite_false, my1, my2, my7, my12, c, y_in, and_self, n10, not_false_eq_true, li49, kin_nI (show 49 < 137 by decide) (by decide), clN (show 49 < 2 ^ 31 by decide), r49, z, h49, if_false, not_true_eq_false]
      exact hQ M hY Fy.rfl'
  have hm := m_MInv hI.1.m0
  have ht0 := hI.1.tot
  have htm : totN (mN S.1 m) ≤ mN S.1 m 50 := by
    rw [m_low (by decide)]
    exact Nat.le_trans (hm m).2.2.2.2.2.2.2 ht0.1
  refine ⟨nI (lostN (mN S.1 m)) - nI (lostN S.1), S, hI.mono, fun M Q hX hQ => ?_, fun M Q hY hQ => ?_⟩
  · show kE 56 0 [.ref 0, .int (nI m), .null] [] M Q
    have e2 : M 1 10 = nI (S.1 49) := hX.1.f49
    simp only [e56_0, e56_1, e56_2, e56_5, e56_8, e56_11, e56_12, e56_13, e56_14, e56_17, e56_20, e56_23, e56_25, e56_26, e56_27, e56_30, e56_31, e56_34, e56_38, e56_39, e56_40, e56_41, e56_44, e56_45, e56_48, e56_51, e56_52, e56_55, e56_58, e56_59, e56_62, e56_65, e56_66, e56_69, e56_72, e56_73, eq_self, kcat_nil, kcat_int, kcat_long, kcat_ref, kNL_int, kNL_ref, kNL_null, Option.toList_some, Option.toList_none, List.nil_append, List.cons_append, Nat.reduceAdd, Nat.reduceLeDiff, Nat.reduceEqDiff, true_and, and_true, true_or, or_true, false_or, or_false, ite_true, ite_false, tp1, tp2, tp5, tp18, tp19, e2, c, x_isIn, and_self, n10, not_false_eq_true, z, h49, if_false]
    refine x_copyFrom st21 st1 (by decide) hX.1 (nI_01 hI.1.f49) (fun M1 hR1 hO1 => ?_)
    have loop : ∀ d j, j + d = m → ∀ M3, StR 21 M3 (nr (mN S.1 j)) → Off 21 M M3 → kE 56 39 [.ref 0, .int (nI m), .int (nI j)] [] M3 Q := by
      intro d
      induction d with
      | zero =>
        intro j hj M3 hR3 hO3
        have : j = m := by omega
        subst this
        have le : nI j ≤ nI j := nI_le (Nat.le_refl _) (by omega)
        have hX3 := hX.off21 hO3
        rw [e56_39]
        simp only [e56_0, e56_1, e56_2, e56_5, e56_8, e56_11, e56_12, e56_13, e56_14, e56_17, e56_20, e56_23, e56_25, e56_26, e56_27, e56_30, e56_31, e56_34, e56_37, e56_38, e56_40, e56_41, e56_44, e56_45, e56_48, e56_51, e56_52, e56_55, e56_58, e56_59, e56_62, e56_65, e56_66, e56_69, e56_72, e56_73, eq_self, kcat_nil, kcat_int, kcat_long, kcat_ref, kNL_int, kNL_ref, kNL_null, Option.toList_some, Option.toList_none, List.nil_append, List.cons_append, Nat.reduceAdd, Nat.reduceLeDiff, Nat.reduceEqDiff, true_and, and_true, true_or, or_true, false_or, or_false, ite_true, ite_false, le, tp1, tp2, tp5, tp18, tp19, x_lostMass st21 hR3 (hm j).2.2.2.1 htm, x_lostMass st1 hX3.1 hI.1.f24 ht0.1]
        exact hQ _ hX3 (hO3.fx (by decide))
      | succ d ih =>
        intro j hj M3 hR3 hO3
        have nle : ¬ nI m ≤ nI j := nI_ge (by omega) (by omega)
        rw [e56_39]
        simp only [e56_0, e56_1, e56_2, e56_5, e56_8, e56_11, e56_12, e56_13, e56_14, e56_17, e56_20, e56_23, e56_25, e56_26, e56_27, e56_30, e56_31, e56_34, e56_37, e56_38, e56_40, e56_41, e56_44, e56_45, e56_48, e56_52, e56_55, e56_58, e56_59, e56_62, e56_65, e56_66, e56_69, e56_72, e56_73, eq_self, kcat_nil, kcat_int, kcat_long, kcat_ref, kNL_int, kNL_ref, kNL_null, Option.toList_some, Option.toList_none, List.nil_append, List.cons_append, Nat.reduceAdd, Nat.reduceLeDiff, Nat.reduceEqDiff, true_and, and_true, true_or, or_true, false_or, or_false, ite_true, ite_false, nle, if_false, tp2, tp5, tp19]
        refine x_minute st21 hR3 (hm j) (fun M4 hR4 hO4 => ?_)
        simp only [e56_0, e56_1, e56_2, e56_5, e56_8, e56_11, e56_12, e56_13, e56_14, e56_17, e56_20, e56_23, e56_25, e56_26, e56_27, e56_30, e56_31, e56_34, e56_37, e56_38, e56_40, e56_41, e56_44, e56_45, e56_48, e56_51, e56_52, e56_55, e56_58, e56_59, e56_62, e56_65, e56_66, e56_69, e56_72, e56_73, eq_self, kcat_nil, kcat_int, kcat_long, kcat_ref, kNL_int, kNL_ref, kNL_null, Option.toList_some, Option.toList_none, List.nil_append, List.cons_append, Nat.reduceAdd, Nat.reduceLeDiff, Nat.reduceEqDiff, true_and, and_true, true_or, or_true, false_or, or_false, ite_true, ite_false, nI_add1]
        exact ih (j + 1) (by omega) M4 hR4 (hO3.trans hO4)
    simp only [e56_0, e56_1, e56_2, e56_5, e56_8, e56_11, e56_12, e56_13, e56_14, e56_17, e56_20, e56_23, e56_25, e56_26, e56_27, e56_30, e56_31, e56_34, e56_37, e56_38, e56_40, e56_41, e56_44, e56_45, e56_48, e56_51, e56_52, e56_55, e56_58, e56_59, e56_62, e56_65, e56_66, e56_69, e56_72, e56_73, eq_self, kcat_nil, kcat_int, kcat_long, kcat_ref, kNL_int, kNL_ref, kNL_null, Option.toList_some, Option.toList_none, List.nil_append, List.cons_append, Nat.reduceAdd, Nat.reduceLeDiff, Nat.reduceEqDiff, true_and, and_true, true_or, or_true, false_or, or_false, ite_true, ite_false]
    exact loop m 0 (by omega) M1 hR1 hO1
  · show kE 117 0 [.ref 166, .int (nI m), .null, .null, .null] [] M Q
    have r49 : M 167 49 = nI (S.1 49) := hY.1 49 (by decide)
    simp only [e117_0, e117_1, e117_2, e117_5, e117_8, e117_11, e117_12, e117_13, e117_14, e117_17, e117_19, e117_20, e117_23, e117_25, e117_26, e117_27, e117_31, e117_34, e117_35, e117_36, e117_37, e117_38, e117_40, e117_42, e117_43, e117_46, e117_47, e117_48, e117_51, e117_52, e117_53, e117_56, e117_59, e117_60, e117_63, e117_64, e117_65, e117_67, e117_68, e117_71, e117_72, e117_75, e117_76, e117_79, e117_81, eq_self, kcat_nil, kcat_int, kcat_long, kcat_ref, kNL_int, kNL_ref, kNL_null, Option.toList_some, Option.toList_none, List.nil_append, List.cons_append, Nat.reduceAdd, Nat.reduceLeDiff, Nat.reduceEqDiff, true_and, and_true, true_or, or_true, false_or, or_false, ite_true, ite_false, my1, my2, my7, my12, c, y_in, and_self, n10, not_false_eq_true, li49, kin_nI (show 49 < 137 by decide) (by decide), clN (show 49 < 2 ^ 31 by decide), r49, z, h49, if_false]
    refine y_keeps hY.1 (fun M1 hK1 hO1 => ?_)
    have hR1 : RowM M1 S.1 := fun i hi => by rw [hO1 167 (by decide)]; exact hY.1 i hi
    have loop : ∀ d j, j + d = m → ∀ M3, RowM M3 (mN S.1 j) → OffY M1 M3 → kE 117 40 [.ref 166, .int (nI m), .int (nI (lostN S.1)), .int (nI (mS S.1 j)), .int (nI j)] [] M3 Q := by
      intro d
      induction d with
      | zero =>
        intro j hj M3 hR3 hO3
        have : j = m := by omega
        subst this
        have le : nI j ≤ nI j := nI_le (Nat.le_refl _) (by omega)
        have hb := mS_le hI.1.m0 j
        have ps : 0 ≤ nI (mS S.1 j) := nI_le (Nat.zero_le _) (by omega)
        rw [e117_40]
        simp only [e117_0, e117_1, e117_2, e117_5, e117_8, e117_11, e117_12, e117_13, e117_14, e117_17, e117_19, e117_20, e117_23, e117_25, e117_26, e117_27, e117_30, e117_31, e117_34, e117_35, e117_36, e117_37, e117_38, e117_42, e117_43, e117_46, e117_47, e117_48, e117_51, e117_52, e117_53, e117_56, e117_59, e117_60, e117_63, e117_64, e117_65, e117_67, e117_68, e117_72, e117_75, e117_76, e117_79, e117_81, eq_self, kcat_nil, kcat_int, kcat_long, kcat_ref, kNL_int, kNL_ref, kNL_null, Option.toList_some, Option.toList_none, List.nil_append, List.cons_append, Nat.reduceAdd, Nat.reduceLeDiff, Nat.reduceEqDiff, true_and, and_true, true_or, or_true, false_or, or_false, ite_true, ite_false, le, my1, y_lost hR3 (hm j).2.2.2.1 htm]
        refine y_restores (p := S.1) (fun i hi => by rw [hO3 170 (by decide)]; exact hK1 i hi) (fun M4 hR4 hO4 => ?_)
        simp only [e117_0, e117_1, e117_2, e117_5, e117_8, e117_11, e117_12, e117_13, e117_14, e117_17, e117_19, e117_20, e117_23, e117_25, e117_26, e117_27, e117_30, e117_31, e117_34, e117_35, e117_36, e117_37, e117_38, e117_42, e117_43, e117_46, e117_47, e117_48, e117_51, e117_52, e117_53, e117_56, e117_59, e117_60, e117_63, e117_64, e117_65, e117_67, e117_68, e117_71, e117_72, e117_75, e117_76, e117_79, e117_81, eq_self, kcat_nil, kcat_int, kcat_long, kcat_ref, kNL_int, kNL_ref, kNL_null, Option.toList_some, Option.toList_none, List.nil_append, List.cons_append, Nat.reduceAdd, Nat.reduceLeDiff, Nat.reduceEqDiff, true_and, and_true, true_or, or_true, false_or, or_false, ite_true, ite_false, ps]
        exact hQ M4 (hY.keep (fun c c1 c2 => by rw [hO4 c c1, hO3 c c1, hO1 c c2]) hR4) (fun c hc => by rw [hO4 c (by omega), hO3 c (by omega), hO1 c (by omega)])
      | succ d ih =>
        intro j hj M3 hR3 hO3
        have nle : ¬ nI m ≤ nI j := nI_ge (by omega) (by omega)
        rw [e117_40]
        simp only [e117_0, e117_1, e117_2, e117_5, e117_8, e117_11, e117_12, e117_13, e117_14, e117_17, e117_19, e117_20, e117_23, e117_25, e117_26, e117_27, e117_30, e117_31, e117_34, e117_35, e117_36, e117_37, e117_38, e117_42, e117_43, e117_46, e117_47, e117_48, e117_52, e117_53, e117_56, e117_59, e117_60, e117_63, e117_64, e117_65, e117_67, e117_68, e117_71, e117_72, e117_75, e117_76, e117_79, e117_81, eq_self, kcat_nil, kcat_int, kcat_long, kcat_ref, kNL_int, kNL_ref, kNL_null, Option.toList_some, Option.toList_none, List.nil_append, List.cons_append, Nat.reduceAdd, Nat.reduceLeDiff, Nat.reduceEqDiff, true_and, and_true, true_or, or_true, false_or, or_false, ite_true, ite_false, nle, if_false, my1]
        refine y_minute hR3 (hm j) (fun M4 hR4 hO4 => ?_)
        simp only [e117_0, e117_1, e117_2, e117_5, e117_8, e117_11, e117_12, e117_13, e117_14, e117_17, e117_19, e117_20, e117_23, e117_25, e117_26, e117_27, e117_30, e117_31, e117_34, e117_35, e117_36, e117_37, e117_38, e117_42, e117_43, e117_46, e117_47, e117_48, e117_51, e117_52, e117_53, e117_56, e117_59, e117_60, e117_63, e117_64, e117_65, e117_67, e117_68, e117_71, e117_72, e117_75, e117_76, e117_79, e117_81, eq_self, kcat_nil, kcat_int, kcat_long, kcat_ref, kNL_int, kNL_ref, kNL_null, Option.toList_some, Option.toList_none, List.nil_append, List.cons_append, Nat.reduceAdd, Nat.reduceLeDiff, Nat.reduceEqDiff, true_and, and_true, true_or, or_true, false_or, or_false, ite_true, ite_false, nI_add, nI_add1]
        exact ih (j + 1) (by omega) M4 hR4 (hO3.trans hO4)
    simp only [e117_0, e117_1, e117_2, e117_5, e117_8, e117_11, e117_12, e117_13, e117_14, e117_17, e117_19, e117_20, e117_23, e117_25, e117_26, e117_27, e117_30, e117_31, e117_34, e117_35, e117_36, e117_37, e117_38, e117_42, e117_43, e117_46, e117_47, e117_48, e117_51, e117_52, e117_53, e117_56, e117_59, e117_60, e117_63, e117_64, e117_65, e117_67, e117_68, e117_71, e117_72, e117_75, e117_76, e117_79, e117_81, eq_self, kcat_nil, kcat_int, kcat_long, kcat_ref, kNL_int, kNL_ref, kNL_null, Option.toList_some, Option.toList_none, List.nil_append, List.cons_append, Nat.reduceAdd, Nat.reduceLeDiff, Nat.reduceEqDiff, true_and, and_true, true_or, or_true, false_or, or_false, ite_true, ite_false, my1, y_lost hR1 hI.1.f24 ht0.1]
    exact loop m 0 (by omega) M1 hR1 OffY.rfl'
