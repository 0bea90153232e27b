/-! combine, rules, bands, text, undo -/
def comN (p : NR) (j : Nat) : NR := fun i => if i < j then p i + p (10 + i) else if 10 ≤ i ∧ i < 10 + j then 0 else p i
theorem comN_0 (p : NR) (i : Nat) : comN p 0 i = p i := by
  unfold comN
  rw [if_neg (by omega), if_neg (by omega)]
theorem comN_s {p : NR} {j : Nat} (hj : j < 10) (i : Nat) : nu (nu (comN p j) j (p j + p (10 + j))) (10 + j) 0 i = comN p (j + 1) i := by
  unfold nu
  by_cases h1 : i = 10 + j
  · rw [if_pos h1]
    unfold comN
    rw [if_neg (show ¬ i < j + 1 by omega), if_pos (show 10 ≤ i ∧ i < 10 + (j + 1) by omega)]
  · rw [if_neg h1]
    by_cases h2 : i = j
    · rw [if_pos h2]
      unfold comN
      rw [if_pos (show i < j + 1 by omega), h2]
    · rw [if_neg h2]
      unfold comN
      by_cases h3 : i < j
      · rw [if_pos h3, if_pos (show i < j + 1 by omega)]
      · rw [if_neg h3, if_neg (show ¬ i < j + 1 by omega)]
        by_cases h4 : 10 ≤ i ∧ i < 10 + j
        · rw [if_pos h4, if_pos (show 10 ≤ i ∧ i < 10 + (j + 1) by omega)]
        · rw [if_neg h4, if_neg (show ¬ (10 ≤ i ∧ i < 10 + (j + 1)) by omega)]
theorem op_combine : OpOK 34 77 [] := by
  intro S N hN hI
  have hsm := hI.1.smp
  have hrs := hI.1.res
  have ys : ∀ (M : KMem) (p : NR), RowM M p → ∀ Q', kE 69 0 [.ref 166, .int 0, .null, .null] [] M Q' = Q' (some (.int (nI (sumN p 0)))) M := fun M p hR Q' => y_sum (f := 0) hR (by decide)
  have hb : ∀ k, k < 10 → S.1 k + S.1 (10 + k) < 2 ^ 31 := fun k hk => by have := hsm k hk; have := hrs k hk; omega
  have zz : ∀ k, k < 10 → ((nI (S.1 k + S.1 (10 + k)) ≤ 9999) ↔ S.1 k + S.1 (10 + k) ≤ 9999) := fun k hk => nI_le_iff (b := 9999) (hb k hk) (by decide)
  have n0 : ∀ j : Nat, (0 : Int32) + nI j = nI j := fun j => Int32.zero_add _
  -- the check: up to place j all fit
  have chkX : ∀ M Q, XR S M → ∀ d j, j + d = 10 → (∀ k, k < j → S.1 k + S.1 (10 + k) ≤ 9999) → (¬ (∀ k, k < 10 → S.1 k + S.1 (10 + k) ≤ 9999) → Q (some (.int (-3))) M) → ((∀ k, k < 10 → S.1 k + S.1 (10 + k) ≤ 9999) → kE 34 42 [.ref 0, .int (nI 10)] [] M Q) → kE 34 2 [.ref 0, .int (nI j)] [] M Q := by
    intro M Q hX d
    induction d with
    | zero =>
      intro j hj hall hbad hgood
      have : j = 10 := by omega
      subst this
      have le : (10 : Int32) ≤ nI 10 := by decide
      rw [e34_2]
      simp only [e34_0, e34_1, e34_3, e34_5, e34_8, e34_9, e34_12, e34_15, e34_16, e34_17, e34_18, e34_21, e34_24, e34_25, e34_26, e34_27, e34_30, e34_33, e34_35, e34_36, e34_39, e34_43, e34_46, e34_47, e34_48, e34_49, e34_51, e34_54, e34_55, e34_58, e34_61, e34_62, e34_63, e34_64, e34_65, e34_68, e34_71, e34_72, e34_73, e34_74, e34_75, e34_76, e34_79, e34_82, e34_83, e34_84, e34_85, e34_88, e34_91, e34_92, e34_95, e34_98, e34_101, eq_self, kcat_nil, kcat_int, kcat_long, kcat_ref, kNL_int, kNL_ref, kNL_null, Option.toList_some, Option.toList_none, List.nil_append, List.cons_append, Nat.reduceAdd, Nat.reduceLeDiff, Nat.reduceEqDiff, true_and, and_true, true_or, or_true, false_or, or_false, ite_true, ite_false, le]
      exact hgood hall
    | succ d ih =>
      intro j hj hall hbad hgood
      have nle : ¬ (10 : Int32) ≤ nI j := by rw [li10]; exact nI_ge (by omega) (by decide)
      have e1 : M 2 j = nI (S.1 j) := hX.1.smp (by omega)
      have e2 : M 3 j = nI (S.1 (10 + j)) := hX.1.res (by omega)
      rw [e34_2]
      simp only [e34_0, e34_1, e34_3, e34_5, e34_8, e34_9, e34_12, e34_15, e34_16, e34_17, e34_18, e34_21, e34_24, e34_25, e34_26, e34_27, e34_30, e34_33, e34_35, e34_36, e34_39, e34_43, e34_46, e34_47, e34_48, e34_49, e34_51, e34_54, e34_55, e34_58, e34_61, e34_62, e34_63, e34_64, e34_65, e34_68, e34_71, e34_72, e34_73, e34_74, e34_75, e34_76, e34_79, e34_82, e34_83, e34_84, e34_85, e34_88, e34_91, e34_92, e34_95, e34_98, e34_101, eq_self, kcat_nil, kcat_int, kcat_long, kcat_ref, kNL_int, kNL_ref, kNL_null, Option.toList_some, Option.toList_none, List.nil_append, List.cons_append, Nat.reduceAdd, Nat.reduceLeDiff, Nat.reduceEqDiff, true_and, and_true, true_or, or_true, false_or, or_false, ite_true, ite_false, nle, tp1, tp5, tp18, tp20, tp21, tp25, tp26, tp30, tp31, kin_nI (show j < 10 by omega) (by decide), clN (show j < 2 ^ 31 by omega), e1, e2, nI_add, zz j (by omega), nI_add1]
      by_cases hz : S.1 j + S.1 (10 + j) ≤ 9999
      · rw [if_pos hz]
        refine ih (j + 1) (by omega) (fun k hk => ?_) hbad hgood
        by_cases hkj : k = j
        · rw [hkj]; exact hz
        · exact hall k (by omega)
      · rw [if_neg hz]
        exact hbad (fun q => hz (q j (by omega)))
  have chkY : ∀ M Q, YR S M → ∀ d j, j + d = 10 → (∀ k, k < j → S.1 k + S.1 (10 + k) ≤ 9999) → (¬ (∀ k, k < 10 → S.1 k + S.1 (10 + k) ≤ 9999) → Q (some (.int (-3))) M) → ((∀ k, k < 10 → S.1 k + S.1 (10 + k) ≤ 9999) → kE 77 41 [.ref 166, .int (nI 10)] [] M Q) → kE 77 2 [.ref 166, .int (nI j)] [] M Q := by
    intro M Q hY d
    induction d with
    | zero =>
      intro j hj hall hbad hgood
      have : j = 10 := by omega
      subst this
      have le : (10 : Int32) ≤ nI 10 := by decide
      rw [e77_2]
      simp only [e77_0, e77_1, e77_3, e77_5, e77_8, e77_9, e77_12, e77_13, e77_14, e77_15, e77_16, e77_17, e77_20, e77_22, e77_23, e77_24, e77_25, e77_26, e77_29, e77_32, e77_34, e77_35, e77_38, e77_42, e77_45, e77_46, e77_47, e77_48, e77_50, e77_53, e77_54, e77_57, e77_58, e77_59, e77_60, e77_61, e77_62, e77_63, e77_66, e77_68, e77_69, e77_70, e77_71, e77_72, e77_73, e77_74, e77_77, e77_79, e77_80, e77_81, e77_82, e77_83, e77_86, e77_89, e77_90, e77_91, e77_94, eq_self, kcat_nil, kcat_int, kcat_long, kcat_ref, kNL_int, kNL_ref, kNL_null, Option.toList_some, Option.toList_none, List.nil_append, List.cons_append, Nat.reduceAdd, Nat.reduceLeDiff, Nat.reduceEqDiff, true_and, and_true, true_or, or_true, false_or, or_false, ite_true, ite_false, le]
      exact hgood hall
    | succ d ih =>
      intro j hj hall hbad hgood
      have nle : ¬ nI 10 ≤ nI j := nI_ge (by omega) (by decide)
      rw [e77_2]
      simp only [e77_0, e77_1, e77_3, e77_5, e77_8, e77_9, e77_12, e77_13, e77_14, e77_15, e77_16, e77_17, e77_20, e77_22, e77_23, e77_24, e77_25, e77_26, e77_29, e77_32, e77_34, e77_35, e77_38, e77_42, e77_45, e77_46, e77_47, e77_48, e77_50, e77_53, e77_54, e77_57, e77_58, e77_59, e77_60, e77_61, e77_62, e77_63, e77_66, e77_68, e77_69, e77_70, e77_71, e77_72, e77_73, e77_74, e77_77, e77_79, e77_80, e77_81, e77_82, e77_83, e77_86, e77_89, e77_90, e77_91, e77_94, eq_self, kcat_nil, kcat_int, kcat_long, kcat_ref, kNL_int, kNL_ref, kNL_null, Option.toList_some, Option.toList_none, List.nil_append, List.cons_append, Nat.reduceAdd, Nat.reduceLeDiff, Nat.reduceEqDiff, true_and, and_true, true_or, or_true, false_or, or_false, ite_true, ite_false, li10, nle, my1, my2, my7, my12, n0, nI_add, kin_nI (show j < 137 by omega) (by decide), clN (show j < 2 ^ 31 by omega), hY.1 j (by omega), kin_nI (show 10 + j < 137 by omega) (by decide), clN (show 10 + j < 2 ^ 31 by omega), hY.1 (10 + j) (by omega), zz j (by omega), nI_add1]
      by_cases hz : S.1 j + S.1 (10 + j) ≤ 9999
      · rw [if_pos hz]
        refine ih (j + 1) (by omega) (fun k hk => ?_) hbad hgood
        by_cases hkj : k = j
        · rw [hkj]; exact hz
        · exact hall k (by omega)
      · rw [if_neg hz]
        exact hbad (fun q => hz (q j (by omega)))
  by_cases hall : ∀ k, k < 10 → S.1 k + S.1 (10 + k) ≤ 9999
  · have hIc : Inv (comN S.1 10) (N + 1) := hI.1.smpRes (by omega) (fun i hi _ => by unfold comN; rw [if_neg (by omega), if_neg (by omega)]) (fun k hk => by unfold comN; rw [if_pos hk]; exact hall k hk) (fun k hk => by unfold comN; rw [if_neg (by omega), if_pos (by omega)]; exact Nat.zero_le _)
    refine ⟨nI (sumN (comN S.1 10) 0), (comN S.1 10, (sav S).2), hI.sav.cur hIc, fun M Q hX hQ => ?_, fun M Q hY hQ => ?_⟩
    · show kE 34 0 [.ref 0, .null] [] M Q
      simp only [e34_0, e34_1, e34_3, e34_5, e34_8, e34_9, e34_12, e34_15, e34_16, e34_17, e34_18, e34_21, e34_24, e34_25, e34_26, e34_27, e34_30, e34_33, e34_35, e34_36, e34_39, e34_42, e34_43, e34_46, e34_47, e34_48, e34_49, e34_51, e34_54, e34_55, e34_58, e34_61, e34_62, e34_63, e34_64, e34_65, e34_68, e34_71, e34_72, e34_73, e34_74, e34_75, e34_76, e34_79, e34_82, e34_83, e34_84, e34_85, e34_88, e34_91, e34_92, e34_95, e34_98, e34_101, eq_self, kcat_nil, kcat_int, kcat_long, kcat_ref, kNL_int, kNL_ref, kNL_null, Option.toList_some, Option.toList_none, List.nil_append, List.cons_append, Nat.reduceAdd, Nat.reduceLeDiff, Nat.reduceEqDiff, true_and, and_true, true_or, or_true, false_or, or_false, ite_true, ite_false]
      refine chkX M Q hX 10 0 rfl (fun k hk => by omega) (fun q => absurd hall q) (fun _ => ?_)
      simp only [e34_0, e34_1, e34_2, e34_3, e34_5, e34_8, e34_9, e34_12, e34_15, e34_16, e34_17, e34_18, e34_21, e34_24, e34_25, e34_26, e34_27, e34_30, e34_33, e34_35, e34_36, e34_39, e34_42, e34_43, e34_47, e34_48, e34_49, e34_51, e34_54, e34_55, e34_58, e34_61, e34_62, e34_63, e34_64, e34_65, e34_68, e34_71, e34_72, e34_73, e34_74, e34_75, e34_76, e34_79, e34_82, e34_83, e34_84, e34_85, e34_88, e34_91, e34_92, e34_95, e34_98, e34_101, eq_self, kcat_nil, kcat_int, kcat_long, kcat_ref, kNL_int, kNL_ref, kNL_null, Option.toList_some, Option.toList_none, List.nil_append, List.cons_append, Nat.reduceAdd, Nat.reduceLeDiff, Nat.reduceEqDiff, true_and, and_true, true_or, or_true, false_or, or_false, ite_true, ite_false, tp5]
      refine x_saveState hX hI.1.f49 (fun M1 hX1 hF _ _ _ => ?_)
      have loop : ∀ d j, j + d = 10 → ∀ M2, StR 1 M2 (nr (comN S.1 j)) → Off 1 M1 M2 → kE 34 48 [.ref 0, .int (nI j)] [] M2 Q := by
        intro d
        induction d with
        | zero =>
          intro j hj M2 hR hO
          have : j = 10 := by omega
          subst this
          have le : (10 : Int32) ≤ nI 10 := by decide
          rw [e34_48]
          simp only [e34_0, e34_1, e34_2, e34_3, e34_5, e34_8, e34_9, e34_12, e34_15, e34_16, e34_17, e34_18, e34_21, e34_24, e34_25, e34_26, e34_27, e34_30, e34_33, e34_35, e34_36, e34_39, e34_42, e34_43, e34_46, e34_47, e34_49, e34_51, e34_54, e34_55, e34_58, e34_61, e34_62, e34_63, e34_64, e34_65, e34_68, e34_71, e34_72, e34_73, e34_74, e34_75, e34_76, e34_79, e34_82, e34_83, e34_84, e34_85, e34_88, e34_91, e34_92, e34_95, e34_98, e34_101, eq_self, kcat_nil, kcat_int, kcat_long, kcat_ref, kNL_int, kNL_ref, kNL_null, Option.toList_some, Option.toList_none, List.nil_append, List.cons_append, Nat.reduceAdd, Nat.reduceLeDiff, Nat.reduceEqDiff, true_and, and_true, true_or, or_true, false_or, or_false, ite_true, ite_false, le, tp1, tp5, tp18, tp20, x_sum2 hR]
          exact hQ M2 (hX1.cur hO hR) (fx1 hF hO)
        | succ d ih =>
          intro j hj M2 hR hO
          have nle : ¬ (10 : Int32) ≤ nI j := by rw [li10]; exact nI_ge (by omega) (by decide)
          have e1 : M2 2 j = nI (S.1 j) := by
            have : M2 2 j = nI (comN S.1 j j) := hR.smp (by omega)
            rw [this]
            unfold comN
            rw [if_neg (by omega), if_neg (by omega)]
          have e2 : M2 3 j = nI (S.1 (10 + j)) := by
            have : M2 3 j = nI (comN S.1 j (10 + j)) := hR.res (by omega)
            rw [this]
            unfold comN
            rw [if_neg (by omega), if_neg (by omega)]
          rw [e34_48]
          simp only [e34_0, e34_1, e34_2, e34_3, e34_5, e34_8, e34_9, e34_12, e34_15, e34_16, e34_17, e34_18, e34_21, e34_24, e34_25, e34_26, e34_27, e34_30, e34_33, e34_35, e34_36, e34_39, e34_42, e34_43, e34_46, e34_47, e34_49, e34_51, e34_54, e34_55, e34_58, e34_61, e34_62, e34_63, e34_64, e34_65, e34_68, e34_71, e34_72, e34_73, e34_74, e34_75, e34_76, e34_79, e34_82, e34_83, e34_84, e34_85, e34_88, e34_91, e34_92, e34_95, e34_98, e34_101, eq_self, kcat_nil, kcat_int, kcat_long, kcat_ref, kNL_int, kNL_ref, kNL_null, Option.toList_some, Option.toList_none, List.nil_append, List.cons_append, Nat.reduceAdd, Nat.reduceLeDiff, Nat.reduceEqDiff, true_and, and_true, true_or, or_true, false_or, or_false, ite_true, ite_false, nle, tp1, tp5, tp18, tp20, tp21, tp25, tp26, tp30, tp31, kin_nI (show j < 10 by omega) (by decide), clN (show j < 2 ^ 31 by omega), e1, e2, nI_add, nI_add1]
          refine ih (j + 1) (by omega) _ ?_ ((hO.mset (by decide) (by decide)).mset (by decide) (by decide))
          have s := (hR.setSmp (show j < 10 by omega) (nI (S.1 j + S.1 (10 + j)))).setRes (show j < 10 by omega) (nI 0)
          rw [nr_upd, nr_upd, nr_congr (comN_s (show j < 10 by omega))] at s
          exact s
      simp only [e34_0, e34_1, e34_2, e34_3, e34_5, e34_8, e34_9, e34_12, e34_15, e34_16, e34_17, e34_18, e34_21, e34_24, e34_25, e34_26, e34_27, e34_30, e34_33, e34_35, e34_36, e34_39, e34_42, e34_43, e34_46, e34_47, e34_49, e34_51, e34_54, e34_55, e34_58, e34_61, e34_62, e34_63, e34_64, e34_65, e34_68, e34_71, e34_72, e34_73, e34_74, e34_75, e34_76, e34_79, e34_82, e34_83, e34_84, e34_85, e34_88, e34_91, e34_92, e34_95, e34_98, e34_101, eq_self, kcat_nil, kcat_int, kcat_long, kcat_ref, kNL_int, kNL_ref, kNL_null, Option.toList_some, Option.toList_none, List.nil_append, List.cons_append, Nat.reduceAdd, Nat.reduceLeDiff, Nat.reduceEqDiff, true_and, and_true, true_or, or_true, false_or, or_false, ite_true, ite_false]
      exact loop 10 0 rfl M1 (hX1.1.congr (fun i _ => congrArg nI (comN_0 S.1 i))) Off.rfl'
    · show kE 77 0 [.ref 166, .null] [] M Q
      simp only [e77_0, e77_1, e77_3, e77_5, e77_8, e77_9, e77_12, e77_13, e77_14, e77_15, e77_16, e77_17, e77_20, e77_22, e77_23, e77_24, e77_25, e77_26, e77_29, e77_32, e77_34, e77_35, e77_38, e77_41, e77_42, e77_45, e77_46, e77_47, e77_48, e77_50, e77_53, e77_54, e77_57, e77_58, e77_59, e77_60, e77_61, e77_62, e77_63, e77_66, e77_68, e77_69, e77_70, e77_71, e77_72, e77_73, e77_74, e77_77, e77_79, e77_80, e77_81, e77_82, e77_83, e77_86, e77_89, e77_90, e77_91, e77_94, eq_self, kcat_nil, kcat_int, kcat_long, kcat_ref, kNL_int, kNL_ref, kNL_null, Option.toList_some, Option.toList_none, List.nil_append, List.cons_append, Nat.reduceAdd, Nat.reduceLeDiff, Nat.reduceEqDiff, true_and, and_true, true_or, or_true, false_or, or_false, ite_true, ite_false]
      refine chkY M Q hY 10 0 rfl (fun k hk => by omega) (fun q => absurd hall q) (fun _ => ?_)
      simp only [e77_0, e77_1, e77_2, e77_3, e77_5, e77_8, e77_9, e77_12, e77_13, e77_14, e77_15, e77_16, e77_17, e77_20, e77_22, e77_23, e77_24, e77_25, e77_26, e77_29, e77_32, e77_34, e77_35, e77_38, e77_41, e77_42, e77_46, e77_47, e77_48, e77_50, e77_53, e77_54, e77_57, e77_58, e77_59, e77_60, e77_61, e77_62, e77_63, e77_66, e77_68, e77_69, e77_70, e77_71, e77_72, e77_73, e77_74, e77_77, e77_79, e77_80, e77_81, e77_82, e77_83, e77_86, e77_89, e77_90, e77_91, e77_94, eq_self, kcat_nil, kcat_int, kcat_long, kcat_ref, kNL_int, kNL_ref, kNL_null, Option.toList_some, Option.toList_none, List.nil_append, List.cons_append, Nat.reduceAdd, Nat.reduceLeDiff, Nat.reduceEqDiff, true_and, and_true, true_or, or_true, false_or, or_false, ite_true, ite_false, my1]
      refine y_notes hY (fun M1 hY1 hF _ _ _ => ?_)
      have loop : ∀ d j, j + d = 10 → ∀ M2, RowM M2 (comN S.1 j) → OffY M1 M2 → kE 77 47 [.ref 166, .int (nI j)] [] M2 Q := by
        intro d
        induction d with
        | zero =>
          intro j hj M2 hR hO
          have : j = 10 := by omega
          subst this
          have le : (10 : Int32) ≤ nI 10 := by decide
          rw [e77_47]
          simp only [e77_0, e77_1, e77_2, e77_3, e77_5, e77_8, e77_9, e77_12, e77_13, e77_14, e77_15, e77_16, e77_17, e77_20, e77_22, e77_23, e77_24, e77_25, e77_26, e77_29, e77_32, e77_34, e77_35, e77_38, e77_41, e77_42, e77_45, e77_46, e77_48, e77_50, e77_53, e77_54, e77_57, e77_58, e77_59, e77_60, e77_61, e77_62, e77_63, e77_66, e77_68, e77_69, e77_70, e77_71, e77_72, e77_73, e77_74, e77_77, e77_79, e77_80, e77_81, e77_82, e77_83, e77_86, e77_89, e77_90, e77_91, e77_94, eq_self, kcat_nil, kcat_int, kcat_long, kcat_ref, kNL_int, kNL_ref, kNL_null, Option.toList_some, Option.toList_none, List.nil_append, List.cons_append, Nat.reduceAdd, Nat.reduceLeDiff, Nat.reduceEqDiff, true_and, and_true, true_or, or_true, false_or, or_false, ite_true, ite_false, le, my1, ys M2 _ hR]
          exact hQ M2 (hY1.cur hO hR) (hF.trans hO.fy)
        | succ d ih =>
          intro j hj M2 hR hO
          have nle : ¬ nI 10 ≤ nI j := nI_ge (by omega) (by decide)
          have e1 : M2 167 j = nI (S.1 j) := by
            rw [hR j (by omega)]
            unfold comN
            rw [if_neg (by omega), if_neg (by omega)]
          have e2 : M2 167 (10 + j) = nI (S.1 (10 + j)) := by
            rw [hR (10 + j) (by omega)]
            unfold comN
            rw [if_neg (by omega), if_neg (by omega)]
          rw [e77_47]
          simp only [e77_0, e77_1, e77_2, e77_3, e77_5, e77_8, e77_9, e77_12, e77_13, e77_14, e77_15, e77_16, e77_17, e77_20, e77_22, e77_23, e77_24, e77_25, e77_26, e77_29, e77_32, e77_34, e77_35, e77_38, e77_41, e77_42, e77_45, e77_46, e77_48, e77_50, e77_53, e77_54, e77_57, e77_58, e77_59, e77_60, e77_61, e77_62, e77_63, e77_66, e77_68, e77_69, e77_70, e77_71, e77_72, e77_73, e77_74, e77_77, e77_79, e77_80, e77_81, e77_82, e77_83, e77_86, e77_89, e77_90, e77_91, e77_94, eq_self, kcat_nil, kcat_int, kcat_long, kcat_ref, kNL_int, kNL_ref, kNL_null, Option.toList_some, Option.toList_none, List.nil_append, List.cons_append, Nat.reduceAdd, Nat.reduceLeDiff, Nat.reduceEqDiff, true_and, and_true, true_or, or_true, false_or, or_false, ite_true, ite_false, li10, nle, my1, my2, my7, my12, n0, nI_add, kin_nI (show j < 137 by omega) (by decide), clN (show j < 2 ^ 31 by omega), e1, kin_nI (show 10 + j < 137 by omega) (by decide), clN (show 10 + j < 2 ^ 31 by omega), e2, nI_add1]
          refine ih (j + 1) (by omega) _ (((hR.set j _).set (10 + j) 0).congr (fun i _ => (comN_s (show j < 10 by omega) i).symm)) ((hO.set _ _).set _ _)
      simp only [e77_0, e77_1, e77_2, e77_3, e77_5, e77_8, e77_9, e77_12, e77_13, e77_14, e77_15, e77_16, e77_17, e77_20, e77_22, e77_23, e77_24, e77_25, e77_26, e77_29, e77_32, e77_34, e77_35, e77_38, e77_41, e77_42, e77_45, e77_46, e77_48, e77_50, e77_53, e77_54, e77_57, e77_58, e77_59, e77_60, e77_61, e77_62, e77_63, e77_66, e77_68, e77_69, e77_70, e77_71, e77_72, e77_73, e77_74, e77_77, e77_79, e77_80, e77_81, e77_82, e77_83, e77_86, e77_89, e77_90, e77_91, e77_94, eq_self, kcat_nil, kcat_int, kcat_long, kcat_ref, kNL_int, kNL_ref, kNL_null, Option.toList_some, Option.toList_none, List.nil_append, List.cons_append, Nat.reduceAdd, Nat.reduceLeDiff, Nat.reduceEqDiff, true_and, and_true, true_or, or_true, false_or, or_false, ite_true, ite_false]
      exact loop 10 0 rfl M1 (hY1.1.congr (fun i _ => comN_0 S.1 i)) OffY.rfl'
  · refine ⟨-3, S, hI.mono, fun M Q hX hQ => ?_, fun M Q hY hQ => ?_⟩
    · show kE 34 0 [.ref 0, .null] [] M Q
      simp only [e34_0, e34_1, e34_3, e34_5, e34_8, e34_9, e34_12, e34_15, e34_16, e34_17, e34_18, e34_21, e34_24, e34_25, e34_26, e34_27, e34_30, e34_33, e34_35, e34_36, e34_39, e34_42, e34_43, e34_46, e34_47, e34_48, e34_49, e34_51, e34_54, e34_55, e34_58, e34_61, e34_62, e34_63, e34_64, e34_65, e34_68, e34_71, e34_72, e34_73, e34_74, e34_75, e34_76, e34_79, e34_82, e34_83, e34_84, e34_85, e34_88, e34_91, e34_92, e34_95, e34_98, e34_101, eq_self, kcat_nil, kcat_int, kcat_long, kcat_ref, kNL_int, kNL_ref, kNL_null, Option.toList_some, Option.toList_none, List.nil_append, List.cons_append, Nat.reduceAdd, Nat.reduceLeDiff, Nat.reduceEqDiff, true_and, and_true, true_or, or_true, false_or, or_false, ite_true, ite_false]
      exact chkX M Q hX 10 0 rfl (fun k hk => by omega) (fun _ => hQ M hX Fx.rfl') (fun q => absurd q hall)
    · show kE 77 0 [.ref 166, .null] [] M Q
      simp only [e77_0, e77_1, e77_3, e77_5, e77_8, e77_9, e77_12, e77_13, e77_14, e77_15, e77_16, e77_17, e77_20, e77_22, e77_23, e77_24, e77_25, e77_26, e77_29, e77_32, e77_34, e77_35, e77_38, e77_41, e77_42, e77_45, e77_46, e77_47, e77_48, e77_50, e77_53, e77_54, e77_57, e77_58, e77_59, e77_60, e77_61, e77_62, e77_63, e77_66, e77_68, e77_69, e77_70, e77_71, e77_72, e77_73, e77_74, e77_77, e77_79, e77_80, e77_81, e77_82, e77_83, e77_86, e77_89, e77_90, e77_91, e77_94, eq_self, kcat_nil, kcat_int, kcat_long, kcat_ref, kNL_int, kNL_ref, kNL_null, Option.toList_some, Option.toList_none, List.nil_append, List.cons_append, Nat.reduceAdd, Nat.reduceLeDiff, Nat.reduceEqDiff, true_and, and_true, true_or, or_true, false_or, or_false, ite_true, ite_false]
      exact chkY M Q hY 10 0 rfl (fun k hk => by omega) (fun _ => hQ M hY Fy.rfl') (fun q => absurd q hall)
theorem op_undo : OpOK 57 68 [] := by
  intro S N hN hI
  by_cases hL : S.2.1 = 0
  · refine ⟨-2, S, hI.mono, fun M Q hX hQ => ?_, fun M Q hY hQ => ?_⟩
    · exact x_undo hX (fun h => by omega) (fun _ => hQ M hX Fx.rfl') (fun M' h => by omega)
    · exact y_undo hY (fun _ => hQ M hY Fy.rfl') (fun M' h => by omega)
  · have h0 := hI.2.1 0 (by omega)
    refine ⟨nI (S.2.1 - 1), und S, ?_, fun M Q hX hQ => ?_, fun M Q hY hQ => ?_⟩
    · refine ⟨h0.mono, fun j hj => (hI.2.1 (j + 1) (by have : j < S.2.1 - 1 := hj; omega)).mono, ?_, hI.2.2.2⟩
      show S.2.1 - 1 ≤ 6
      have := hI.2.2.1
      omega
    · exact x_undo hX (fun _ => h0.f49) (fun h => absurd h hL) (fun M' _ h1 h2 => hQ M' h1 h2)
    · exact y_undo hY (fun h => absurd h hL) (fun M' _ h1 h2 => hQ M' h1 h2)
theorem op_clearText : OpOK 36 79 [] := by
  intro S N hN hI
  refine ⟨nI S.2.2.2.1, (S.1, S.2.1, S.2.2.1, 0, S.2.2.2.2), ⟨hI.mono.1, hI.mono.2.1, hI.2.2.1, Nat.zero_le _, fun i hi => absurd hi (Nat.not_lt_zero i)⟩, fun M Q hX hQ => ?_, fun M Q hY hQ => ?_⟩
  · show kE 36 0 [.ref 0, .null] [] M Q
    have e : M 162 3 = nI S.2.2.2.1 := hX.2.2.2.2.1
    simp only [e36_0, e36_1, e36_4, e36_7, e36_8, e36_9, e36_12, e36_13, e36_16, e36_17, eq_self, kcat_nil, kcat_int, kcat_long, kcat_ref, kNL_int, kNL_ref, kNL_null, Option.toList_some, Option.toList_none, List.nil_append, List.cons_append, Nat.reduceAdd, Nat.reduceLeDiff, Nat.reduceEqDiff, true_and, and_true, true_or, or_true, false_or, or_false, ite_true, ite_false, tp4, tp5, tp7, e]
    exact hQ _ (hX.text (len := 0) (fun c hc => mset_off (by omega)) (mset_eq _ _ _ _) (Nat.zero_le _) (fun i hi => absurd hi (Nat.not_lt_zero i))) (Fx.rfl'.mset (by decide) _)
  · show kE 79 0 [.ref 166, .null] [] M Q
    obtain ⟨h1, h2, h3, h4, h5, h6, h7⟩ := hY
    simp only [e79_0, e79_1, e79_4, e79_5, e79_6, e79_7, e79_10, e79_11, eq_self, kcat_nil, kcat_int, kcat_long, kcat_ref, kNL_int, kNL_ref, kNL_null, Option.toList_some, Option.toList_none, List.nil_append, List.cons_append, Nat.reduceAdd, Nat.reduceLeDiff, Nat.reduceEqDiff, true_and, and_true, true_or, or_true, false_or, or_false, ite_true, ite_false, my1, h5]
    refine hQ _ ⟨h1.off (mset_off (by decide)), by rw [mset_ne (by omega)]; exact h2, h3, fun j hj i hi => by rw [mset_off (by decide)]; exact h4 j hj i hi, mset_eq _ _ _ _, Nat.zero_le _, fun i hi => absurd hi (Nat.not_lt_zero i)⟩ (Fy.rfl'.mset (by decide) _)
theorem op_appendCharacter (x : Int32) : OpOK 35 78 [.int x] := by
  intro S N hN hI
  have n10 : ¬ (1 : Int32) = 0 := by decide
  rcases rng x 0 255 (by decide) (by decide) with h | ⟨k, _, hk, rfl⟩
  · have h' : ¬ (0 ≤ x ∧ x ≤ 255) := h
    refine ⟨-1, S, hI.mono, fun M Q hX hQ => ?_, fun M Q hY hQ => ?_⟩
    · show kE 35 0 [.ref 0, .int x] [] M Q
      simp only [e35_0, e35_1, e35_2, e35_5, e35_8, e35_11, e35_12, e35_13, e35_14, e35_17, e35_20, e35_22, e35_25, e35_27, e35_28, e35_29, e35_32, e35_35, e35_36, e35_39, e35_42, e35_43, e35_44, e35_45, e35_46, e35_49, e35_49r, e35_50, e35_53, e35_54, e35_55, e35_58, e35_59, e35_62, e35_65, eq_self, kcat_nil, kcat_int, kcat_long, kcat_ref, kNL_int, kNL_ref, kNL_null, Option.toList_some, Option.toList_none, List.nil_append, List.cons_append, Nat.reduceAdd, Nat.reduceLeDiff, Nat.reduceEqDiff, true_and, and_true, true_or, or_true, false_or, or_false, ite_true, ite_false, x_isIn, h', if_false, not_true_eq_false]
      exact hQ M hX Fx.rfl'
    · show kE 78 0 [.ref 166, .int x] [] M Q
      simp only [e78_0, e78_1, e78_2, e78_5, e78_8, e78_11, e78_12, e78_13, e78_14, e78_17, e78_19, e78_22, e78_24, e78_25, e78_26, e78_29, e78_30, e78_33, e78_34, e78_35, e78_36, e78_37, e78_37r, e78_38, e78_41, e78_42, e78_43, e78_46, e78_47, e78_50, eq_self, kcat_nil, kcat_int, kcat_long, kcat_ref, kNL_int, kNL_ref, kNL_null, Option.toList_some, Option.toList_none, List.nil_append, List.cons_append, Nat.reduceAdd, Nat.reduceLeDiff, Nat.reduceEqDiff, true_and, and_true, true_or, or_true, false_or, or_false, ite_true, ite_false, y_in, h', if_false, not_true_eq_false]
      exact hQ M hY Fy.rfl'
  have c : (0 : Int32) ≤ nI k ∧ nI k ≤ 255 := rng_in (lo := 0) (hi := 255) (Nat.zero_le _) hk (by decide)
  obtain ⟨n, hn⟩ : ∃ n, n = S.2.2.2.1 := ⟨_, rfl⟩
  have hn80 : n ≤ 80 := by rw [hn]; exact hI.2.2.2.1
  have z1 : (nI n < 80) ↔ n < 80 := nI_lt_iff (b := 80) (by omega) (by decide)
  have z2 : (nI n = 80) ↔ n = 80 := nI_eq_iff (b := 80) (by omega) (by decide)
  by_cases hf : n = 80
  · refine ⟨-3, S, hI.mono, fun M Q hX hQ => ?_, fun M Q hY hQ => ?_⟩
    · show kE 35 0 [.ref 0, .int (nI k)] [] M Q
      have e : M 162 3 = nI n := by rw [hn]; exact hX.2.2.2.2.1
      simp only [e35_0, e35_1, e35_2, e35_5, e35_8, e35_11, e35_12, e35_13, e35_14, e35_17, e35_20, e35_22, e35_25, e35_27, e35_28, e35_29, e35_32, e35_35, e35_36, e35_39, e35_42, e35_43, e35_44, e35_45, e35_46, e35_49, e35_49r, e35_50, e35_53, e35_54, e35_55, e35_58, e35_59, e35_62, e35_65, eq_self, kcat_nil, kcat_int, kcat_long, kcat_ref, kNL_int, kNL_ref, kNL_null, Option.toList_some, Option.toList_none, List.nil_append, List.cons_append, Nat.reduceAdd, Nat.reduceLeDiff, Nat.reduceEqDiff, true_and, and_true, true_or, or_true, false_or, or_false, ite_true, ite_false, x_isIn, c, and_self, n10, not_false_eq_true, tp4, tp5, tp7, e, z1]
      rw [if_neg (by omega)]
      exact hQ M hX Fx.rfl'
    · show kE 78 0 [.ref 166, .int (nI k)] [] M Q
      have e : M 166 4 = nI n := by rw [hn]; exact hY.2.2.2.2.1
      simp only [e78_0, e78_1, e78_2, e78_5, e78_8, e78_11, e78_12, e78_13, e78_14, e78_17, e78_19, e78_22, e78_24, e78_25, e78_26, e78_29, e78_30, e78_33, e78_34, e78_35, e78_36, e78_37, e78_37r, e78_38, e78_41, e78_42, e78_43, e78_46, e78_47, e78_50, eq_self, kcat_nil, kcat_int, kcat_long, kcat_ref, kNL_int, kNL_ref, kNL_null, Option.toList_some, Option.toList_none, List.nil_append, List.cons_append, Nat.reduceAdd, Nat.reduceLeDiff, Nat.reduceEqDiff, true_and, and_true, true_or, or_true, false_or, or_false, ite_true, ite_false, y_in, c, and_self, n10, not_false_eq_true, my1, e, z2]
      rw [if_neg (fun z => z hf)]
      exact hQ M hY Fy.rfl'
  refine ⟨nI (n + 1), (S.1, S.2.1, S.2.2.1, n + 1, fun i => if i = n then k else S.2.2.2.2 i), ⟨hI.mono.1, hI.mono.2.1, hI.2.2.1, by show n + 1 ≤ 80; omega, fun i hi => ?_⟩, fun M Q hX hQ => ?_, fun M Q hY hQ => ?_⟩
  · show (if i = n then k else S.2.2.2.2 i) ≤ 255
    have hi : i < n + 1 := hi
    by_cases hin : i = n
    · rw [if_pos hin]; exact hk
    · rw [if_neg hin]; exact hI.2.2.2.2 i (by omega)
  · show kE 35 0 [.ref 0, .int (nI k)] [] M Q
    have e : M 162 3 = nI n := by rw [hn]; exact hX.2.2.2.2.1
    have ec : knar 6 (k_i2c (nI k)) = nI k := by
      have key : ∀ k, k < 256 → knar 6 (k_i2c (nI k)) = nI k := by decide +kernel
      exact key k (by omega)
    have d1 : mset M 163 n (nI k) 162 = M 162 := mset_off (by decide)
    simp only [e35_0, e35_1, e35_2, e35_5, e35_8, e35_11, e35_12, e35_13, e35_14, e35_17, e35_20, e35_22, e35_25, e35_27, e35_28, e35_29, e35_32, e35_35, e35_36, e35_39, e35_42, e35_43, e35_44, e35_45, e35_46, e35_49, e35_49r, e35_50, e35_53, e35_54, e35_55, e35_58, e35_59, e35_62, e35_65, eq_self, kcat_nil, kcat_int, kcat_long, kcat_ref, kNL_int, kNL_ref, kNL_null, Option.toList_some, Option.toList_none, List.nil_append, List.cons_append, Nat.reduceAdd, Nat.reduceLeDiff, Nat.reduceEqDiff, true_and, and_true, true_or, or_true, false_or, or_false, ite_true, ite_false, x_isIn, c, and_self, n10, not_false_eq_true, tp4, tp5, tp7, tp9, tp12, tp15, e, z1, kin_nI (show n < 80 by omega) (by decide), clN (show n < 2 ^ 31 by omega), ec, d1, nI_add1, mset_eq]
    rw [if_pos (by omega)]
    refine hQ _ (hX.text (len := n + 1) (fun c hc => by rw [mset_off (by omega), mset_off (by omega)]) (mset_eq _ _ _ _) (by omega) (fun i hi => ?_)) ((Fx.rfl'.mset (by decide) _).mset (by decide) _)
    rw [mset_off (by decide)]
    by_cases hin : i = n
    · rw [if_pos hin, hin, mset_eq]
    · rw [if_neg hin, mset_ne (by omega)]
      exact hX.2.2.2.2.2.2 i (by omega)
  · show kE 78 0 [.ref 166, .int (nI k)] [] M Q
    have e : M 166 4 = nI n := by rw [hn]; exact hY.2.2.2.2.1
    have ec : knar 8 (k_i2b (nI k)) = k_i2b (nI k) := by
      have key : ∀ k, k < 256 → knar 8 (k_i2b (nI k)) = k_i2b (nI k) := by decide +kernel
      exact key k (by omega)
    have d1 : mset M 169 n (k_i2b (nI k)) 166 = M 166 := mset_off (by decide)
    simp only [e78_0, e78_1, e78_2, e78_5, e78_8, e78_11, e78_12, e78_13, e78_14, e78_17, e78_19, e78_22, e78_24, e78_25, e78_26, e78_29, e78_30, e78_33, e78_34, e78_35, e78_36, e78_37, e78_37r, e78_38, e78_41, e78_42, e78_43, e78_46, e78_47, e78_50, eq_self, kcat_nil, kcat_int, kcat_long, kcat_ref, kNL_int, kNL_ref, kNL_null, Option.toList_some, Option.toList_none, List.nil_append, List.cons_append, Nat.reduceAdd, Nat.reduceLeDiff, Nat.reduceEqDiff, true_and, and_true, true_or, or_true, false_or, or_false, ite_true, ite_false, y_in, c, and_self, n10, not_false_eq_true, my1, my4, my9, my14, e, z2, kin_nI (show n < 80 by omega) (by decide), clN (show n < 2 ^ 31 by omega), ec, d1, nI_add1, mset_eq]
    rw [if_pos hf]
    obtain ⟨h1, h2, h3, h4, h5, h6, h7⟩ := hY
    refine hQ _ ⟨h1.off (by rw [mset_off (by decide), mset_off (by decide)]), by rw [mset_ne (by omega), mset_off (by decide)]; exact h2, h3, fun j hj i hi => by rw [mset_off (by decide), mset_off (by decide)]; exact h4 j hj i hi, mset_eq _ _ _ _, by show n + 1 ≤ 80; omega, fun i hi => ?_⟩ ((Fy.rfl'.mset (by decide) _).mset (by decide) _)
    have hi : i < n + 1 := hi
    show _ = k_i2b (nI (if i = n then k else S.2.2.2.2 i))
    rw [mset_off (by decide)]
    by_cases hin : i = n
    · rw [if_pos hin, hin, mset_eq]
    · rw [if_neg hin, mset_ne (by omega)]
      exact h7 i (by omega)
