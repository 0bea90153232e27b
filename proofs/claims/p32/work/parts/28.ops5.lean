/-! combine, undo -/
def comN (p : NR) (j : Nat) : NR := fun i => if i < j then p i + p (10 + i) else if 10 ≤ i ∧ i < 10 + j then 0 else p i
theorem comN_0 (p : NR) (i : Nat) : comN p 0 i = p i := by
  unfold comN
  rw [if_neg (by omega), if_neg (by omega)]
theorem comN_s {p : NR} {j : Nat} (hj : j < 10) (i : Nat) : nu (nu (comN p j) j (p j + p (10 + j))) (10 + j) 0 i = comN p (j + 1) i := by
  unfold nu
  by_cases h1 : i = 10 + j
  · rw [if_pos h1]
    unfold comN
    rw [if_neg (show ¬ i < j + 1 by omega), if_pos (show 10 ≤ i ∧ i < 10 + (j + 1) by omega)]
  · rw [if_neg h1]
    by_cases h2 : i = j
    · rw [if_pos h2]
      unfold comN
      rw [if_pos (show i < j + 1 by omega), h2]
    · rw [if_neg h2]
      unfold comN
      by_cases h3 : i < j
      · rw [if_pos h3, if_pos (show i < j + 1 by omega)]
      · rw [if_neg h3, if_neg (show ¬ i < j + 1 by omega)]
        by_cases h4 : 10 ≤ i ∧ i < 10 + j
        · rw [if_pos h4, if_pos (show 10 ≤ i ∧ i < 10 + (j + 1) by omega)]
        · rw [if_neg h4, if_neg (show ¬ (10 ≤ i ∧ i < 10 + (j + 1)) by omega)]
theorem com_KD {p : NR} (hn : p 24 ≤ 6) : KD p (comN p 10) := ⟨fun hJ => hJ.same (fun i h1 _ => by unfold comN; rw [if_neg (by omega), if_neg (by omega)]) hn, sum_both (fun k hk => by unfold comN; rw [if_pos hk, if_neg (by omega), if_pos (by omega), Nat.add_zero])⟩
theorem op_combine : XOK KD 22 [] := by
  intro S N hN hI
  have hsm := hI.1.smp
  have hrs := hI.1.res
  have hb : ∀ k, k < 10 → S.1 k + S.1 (10 + k) < 2 ^ 31 := fun k hk => by have := hsm k hk; have := hrs k hk; omega
  have zz : ∀ k, k < 10 → ((nI (S.1 k + S.1 (10 + k)) ≤ 9999) ↔ S.1 k + S.1 (10 + k) ≤ 9999) := fun k hk => nI_le_iff (b := 9999) (hb k hk) (by decide)
  have n0 : ∀ j : Nat, (0 : Int32) + nI j = nI j := fun j => Int32.zero_add _
  -- the check: up to place j all fit
  have chkX : ∀ M Q, XR S M → ∀ d j, j + d = 10 → (∀ k, k < j → S.1 k + S.1 (10 + k) ≤ 9999) → (¬ (∀ k, k < 10 → S.1 k + S.1 (10 + k) ≤ 9999) → Q (some (.int (-3))) M) → ((∀ k, k < 10 → S.1 k + S.1 (10 + k) ≤ 9999) → kE 22 42 [.ref 0, .int (nI 10)] [] M Q) → kE 22 2 [.ref 0, .int (nI j)] [] M Q := by
    intro M Q hX d
    induction d with
    | zero =>
      intro j hj hall hbad hgood
      have : j = 10 := by omega
      subst this
      have le : (10 : Int32) ≤ nI 10 := by decide
      rw [e22_2]
      simp only [e22_0, e22_1, e22_3, e22_5, e22_8, e22_9, e22_12, e22_15, e22_16, e22_17, e22_18, e22_21, e22_24, e22_25, e22_26, e22_27, e22_30, e22_33, e22_35, e22_36, e22_39, e22_43, e22_46, e22_47, e22_48, e22_49, e22_51, e22_54, e22_55, e22_58, e22_61, e22_62, e22_63, e22_64, e22_65, e22_68, e22_71, e22_72, e22_73, e22_74, e22_75, e22_76, e22_79, e22_82, e22_83, e22_84, e22_85, e22_88, e22_91, e22_92, e22_95, e22_98, e22_101, eq_self, kcat_nil, kcat_int, kcat_long, kcat_ref, kNL_int, kNL_ref, kNL_null, Option.toList_some, Option.toList_none, List.nil_append, List.cons_append, Nat.reduceAdd, Nat.reduceLeDiff, Nat.reduceEqDiff, true_and, and_true, true_or, or_true, false_or, or_false, ite_true, ite_false, le]
      exact hgood hall
    | succ d ih =>
      intro j hj hall hbad hgood
      have nle : ¬ (10 : Int32) ≤ nI j := by rw [li10]; exact nI_ge (by omega) (by decide)
      have e1 : M 2 j = nI (S.1 j) := hX.1.smp (by omega)
      have e2 : M 3 j = nI (S.1 (10 + j)) := hX.1.res (by omega)
      rw [e22_2]
      simp only [e22_0, e22_1, e22_3, e22_5, e22_8, e22_9, e22_12, e22_15, e22_16, e22_17, e22_18, e22_21, e22_24, e22_25, e22_26, e22_27, e22_30, e22_33, e22_35, e22_36, e22_39, e22_43, e22_46, e22_47, e22_48, e22_49, e22_51, e22_54, e22_55, e22_58, e22_61, e22_62, e22_63, e22_64, e22_65, e22_68, e22_71, e22_72, e22_73, e22_74, e22_75, e22_76, e22_79, e22_82, e22_83, e22_84, e22_85, e22_88, e22_91, e22_92, e22_95, e22_98, e22_101, eq_self, kcat_nil, kcat_int, kcat_long, kcat_ref, kNL_int, kNL_ref, kNL_null, Option.toList_some, Option.toList_none, List.nil_append, List.cons_append, Nat.reduceAdd, Nat.reduceLeDiff, Nat.reduceEqDiff, true_and, and_true, true_or, or_true, false_or, or_false, ite_true, ite_false, nle, tp1, tp5, tp18, tp20, tp21, tp25, tp26, tp30, tp31, kin_nI (show j < 10 by omega) (by decide), clN (show j < 2 ^ 31 by omega), e1, e2, nI_add, zz j (by omega), nI_add1]
      by_cases hz : S.1 j + S.1 (10 + j) ≤ 9999
      · rw [if_pos hz]
        refine ih (j + 1) (by omega) (fun k hk => ?_) hbad hgood
        by_cases hkj : k = j
        · rw [hkj]; exact hz
        · exact hall k (by omega)
      · rw [if_neg hz]
        exact hbad (fun q => hz (q j (by omega)))
  by_cases hall : ∀ k, k < 10 → S.1 k + S.1 (10 + k) ≤ 9999
  · have hIc : Inv (comN S.1 10) (N + 1) := hI.1.smpRes (by omega) (fun i hi _ => by unfold comN; rw [if_neg (by omega), if_neg (by omega)]) (fun k hk => by unfold comN; rw [if_pos hk]; exact hall k hk) (fun k hk => by unfold comN; rw [if_neg (by omega), if_pos (by omega)]; exact Nat.zero_le _)
    refine ⟨nI (sumN (comN S.1 10) 0), (comN S.1 10, (sav S).2), hI.sav.cur hIc, Or.inr ⟨nI_pos' (by have := sum0_le hIc; omega), rfl, com_KD hI.1.f24⟩, fun M Q hX hQ => ?_⟩
    · show kE 22 0 [.ref 0, .null] [] M Q
      simp only [e22_0, e22_1, e22_3, e22_5, e22_8, e22_9, e22_12, e22_15, e22_16, e22_17, e22_18, e22_21, e22_24, e22_25, e22_26, e22_27, e22_30, e22_33, e22_35, e22_36, e22_39, e22_42, e22_43, e22_46, e22_47, e22_48, e22_49, e22_51, e22_54, e22_55, e22_58, e22_61, e22_62, e22_63, e22_64, e22_65, e22_68, e22_71, e22_72, e22_73, e22_74, e22_75, e22_76, e22_79, e22_82, e22_83, e22_84, e22_85, e22_88, e22_91, e22_92, e22_95, e22_98, e22_101, eq_self, kcat_nil, kcat_int, kcat_long, kcat_ref, kNL_int, kNL_ref, kNL_null, Option.toList_some, Option.toList_none, List.nil_append, List.cons_append, Nat.reduceAdd, Nat.reduceLeDiff, Nat.reduceEqDiff, true_and, and_true, true_or, or_true, false_or, or_false, ite_true, ite_false]
      refine chkX M Q hX 10 0 rfl (fun k hk => by omega) (fun q => absurd hall q) (fun _ => ?_)
      simp only [e22_0, e22_1, e22_2, e22_3, e22_5, e22_8, e22_9, e22_12, e22_15, e22_16, e22_17, e22_18, e22_21, e22_24, e22_25, e22_26, e22_27, e22_30, e22_33, e22_35, e22_36, e22_39, e22_42, e22_43, e22_47, e22_48, e22_49, e22_51, e22_54, e22_55, e22_58, e22_61, e22_62, e22_63, e22_64, e22_65, e22_68, e22_71, e22_72, e22_73, e22_74, e22_75, e22_76, e22_79, e22_82, e22_83, e22_84, e22_85, e22_88, e22_91, e22_92, e22_95, e22_98, e22_101, eq_self, kcat_nil, kcat_int, kcat_long, kcat_ref, kNL_int, kNL_ref, kNL_null, Option.toList_some, Option.toList_none, List.nil_append, List.cons_append, Nat.reduceAdd, Nat.reduceLeDiff, Nat.reduceEqDiff, true_and, and_true, true_or, or_true, false_or, or_false, ite_true, ite_false, tp5]
      refine x_saveState hX hI.1.f49 (fun M1 hX1 hF _ _ _ => ?_)
      have loop : ∀ d j, j + d = 10 → ∀ M2, StR 1 M2 (nr (comN S.1 j)) → Off 1 M1 M2 → kE 22 48 [.ref 0, .int (nI j)] [] M2 Q := by
        intro d
        induction d with
        | zero =>
          intro j hj M2 hR hO
          have : j = 10 := by omega
          subst this
          have le : (10 : Int32) ≤ nI 10 := by decide
          rw [e22_48]
          simp only [e22_0, e22_1, e22_2, e22_3, e22_5, e22_8, e22_9, e22_12, e22_15, e22_16, e22_17, e22_18, e22_21, e22_24, e22_25, e22_26, e22_27, e22_30, e22_33, e22_35, e22_36, e22_39, e22_42, e22_43, e22_46, e22_47, e22_49, e22_51, e22_54, e22_55, e22_58, e22_61, e22_62, e22_63, e22_64, e22_65, e22_68, e22_71, e22_72, e22_73, e22_74, e22_75, e22_76, e22_79, e22_82, e22_83, e22_84, e22_85, e22_88, e22_91, e22_92, e22_95, e22_98, e22_101, eq_self, kcat_nil, kcat_int, kcat_long, kcat_ref, kNL_int, kNL_ref, kNL_null, Option.toList_some, Option.toList_none, List.nil_append, List.cons_append, Nat.reduceAdd, Nat.reduceLeDiff, Nat.reduceEqDiff, true_and, and_true, true_or, or_true, false_or, or_false, ite_true, ite_false, le, tp1, tp5, tp18, tp20, x_sum2 hR]
          exact hQ M2 (hX1.cur hO hR) (fx1 hF hO)
        | succ d ih =>
          intro j hj M2 hR hO
          have nle : ¬ (10 : Int32) ≤ nI j := by rw [li10]; exact nI_ge (by omega) (by decide)
          have e1 : M2 2 j = nI (S.1 j) := by
            have : M2 2 j = nI (comN S.1 j j) := hR.smp (by omega)
            rw [this]
            unfold comN
            rw [if_neg (by omega), if_neg (by omega)]
          have e2 : M2 3 j = nI (S.1 (10 + j)) := by
            have : M2 3 j = nI (comN S.1 j (10 + j)) := hR.res (by omega)
            rw [this]
            unfold comN
            rw [if_neg (by omega), if_neg (by omega)]
          rw [e22_48]
          simp only [e22_0, e22_1, e22_2, e22_3, e22_5, e22_8, e22_9, e22_12, e22_15, e22_16, e22_17, e22_18, e22_21, e22_24, e22_25, e22_26, e22_27, e22_30, e22_33, e22_35, e22_36, e22_39, e22_42, e22_43, e22_46, e22_47, e22_49, e22_51, e22_54, e22_55, e22_58, e22_61, e22_62, e22_63, e22_64, e22_65, e22_68, e22_71, e22_72, e22_73, e22_74, e22_75, e22_76, e22_79, e22_82, e22_83, e22_84, e22_85, e22_88, e22_91, e22_92, e22_95, e22_98, e22_101, eq_self, kcat_nil, kcat_int, kcat_long, kcat_ref, kNL_int, kNL_ref, kNL_null, Option.toList_some, Option.toList_none, List.nil_append, List.cons_append, Nat.reduceAdd, Nat.reduceLeDiff, Nat.reduceEqDiff, true_and, and_true, true_or, or_true, false_or, or_false, ite_true, ite_false, nle, tp1, tp5, tp18, tp20, tp21, tp25, tp26, tp30, tp31, kin_nI (show j < 10 by omega) (by decide), clN (show j < 2 ^ 31 by omega), e1, e2, nI_add, nI_add1]
          refine ih (j + 1) (by omega) _ ?_ ((hO.mset (by decide) (by decide)).mset (by decide) (by decide))
          have s := (hR.setSmp (show j < 10 by omega) (nI (S.1 j + S.1 (10 + j)))).setRes (show j < 10 by omega) (nI 0)
          rw [nr_upd, nr_upd, nr_congr (comN_s (show j < 10 by omega))] at s
          exact s
      simp only [e22_0, e22_1, e22_2, e22_3, e22_5, e22_8, e22_9, e22_12, e22_15, e22_16, e22_17, e22_18, e22_21, e22_24, e22_25, e22_26, e22_27, e22_30, e22_33, e22_35, e22_36, e22_39, e22_42, e22_43, e22_46, e22_47, e22_49, e22_51, e22_54, e22_55, e22_58, e22_61, e22_62, e22_63, e22_64, e22_65, e22_68, e22_71, e22_72, e22_73, e22_74, e22_75, e22_76, e22_79, e22_82, e22_83, e22_84, e22_85, e22_88, e22_91, e22_92, e22_95, e22_98, e22_101, eq_self, kcat_nil, kcat_int, kcat_long, kcat_ref, kNL_int, kNL_ref, kNL_null, Option.toList_some, Option.toList_none, List.nil_append, List.cons_append, Nat.reduceAdd, Nat.reduceLeDiff, Nat.reduceEqDiff, true_and, and_true, true_or, or_true, false_or, or_false, ite_true, ite_false]
      exact loop 10 0 rfl M1 (hX1.1.congr (fun i _ => congrArg nI (comN_0 S.1 i))) Off.rfl'
  · refine ⟨-3, S, hI.mono, Or.inl ⟨by decide, rfl⟩, fun M Q hX hQ => ?_⟩
    · show kE 22 0 [.ref 0, .null] [] M Q
      simp only [e22_0, e22_1, e22_3, e22_5, e22_8, e22_9, e22_12, e22_15, e22_16, e22_17, e22_18, e22_21, e22_24, e22_25, e22_26, e22_27, e22_30, e22_33, e22_35, e22_36, e22_39, e22_42, e22_43, e22_46, e22_47, e22_48, e22_49, e22_51, e22_54, e22_55, e22_58, e22_61, e22_62, e22_63, e22_64, e22_65, e22_68, e22_71, e22_72, e22_73, e22_74, e22_75, e22_76, e22_79, e22_82, e22_83, e22_84, e22_85, e22_88, e22_91, e22_92, e22_95, e22_98, e22_101, eq_self, kcat_nil, kcat_int, kcat_long, kcat_ref, kNL_int, kNL_ref, kNL_null, Option.toList_some, Option.toList_none, List.nil_append, List.cons_append, Nat.reduceAdd, Nat.reduceLeDiff, Nat.reduceEqDiff, true_and, and_true, true_or, or_true, false_or, or_false, ite_true, ite_false]
      exact chkX M Q hX 10 0 rfl (fun k hk => by omega) (fun _ => hQ M hX Fx.rfl') (fun q => absurd q hall)
theorem und_IS {S : KS} {N : Nat} (hI : IS S N) (h : 0 < S.2.1) : IS (und S) (N + 1) := by
  have h0 := hI.2.1 0 h
  refine ⟨h0.mono, fun j hj => (hI.2.1 (j + 1) (by have : j < S.2.1 - 1 := hj; omega)).mono, ?_, hI.2.2.2⟩
  show S.2.1 - 1 ≤ 6
  have := hI.2.2.1
  omega
