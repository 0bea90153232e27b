/-! the reference: sums over the trays; splitting; saved states -/
theorem y_collected {f : Nat} {M : KMem} {p : NR} {Q : Option Value → KMem → Prop} (hR : RowM M p) (hn : p 24 ≤ 6) (hf : f ≤ p 24 + 1) : kE 107 0 [.ref 166, .int (nI f), .null, .null] [] M Q = Q (some (.int (nI (colN p f)))) M := by
  have e24 : M 167 24 = nI (p 24) := hR 24 (by decide)
  have loop : ∀ d j, f ≤ j → j + d = p 24 + 1 → kE 107 4 [.ref 166, .int (nI f), .int (nI (nsum (fun i => p (53 + 12 * (f + i) + 11)) (j - f))), .int (nI j)] [] M Q = Q (some (.int (nI (colN p f)))) M := by
    intro d
    induction d with
    | zero =>
      intro j hfj hj
      have hlt : nI (p 24) < nI j := (nI_lt_iff (by omega) (by omega)).mpr (by omega)
      have : j = p 24 + 1 := by omega
      rw [e107_4]
      simp only [e107_0, e107_1, e107_2, e107_3, e107_5, e107_6, e107_9, e107_11, e107_12, e107_15, e107_16, e107_17, e107_20, e107_21, e107_22, e107_25, e107_27, e107_28, e107_29, e107_30, e107_31, e107_34, e107_37, e107_38, eq_self, kcat_nil, kcat_int, kcat_long, kcat_ref, kNL_int, kNL_ref, kNL_null, Option.toList_some, Option.toList_none, List.nil_append, List.cons_append, Nat.reduceAdd, Nat.reduceLeDiff, Nat.reduceEqDiff, true_and, and_true, true_or, or_true, false_or, or_false, ite_true, ite_false, my1, my2, my7, my12, li24, kin_nI (show 24 < 137 by decide) (by decide), clN (show 24 < 2 ^ 31 by decide), e24, hlt]
      rw [this]
      rfl
    | succ d ih =>
      intro j hfj hj
      have hlt : ¬ nI (p 24) < nI j := nI_nlt (by omega) (by omega)
      have ec : M 167 (53 + 12 * j + 11) = nI (p (53 + 12 * (f + (j - f)) + 11)) := by
        rw [hR _ (by omega), show f + (j - f) = j from by omega]
      rw [← ih (j + 1) (by omega) (by omega), e107_4]
      simp only [e107_0, e107_1, e107_2, e107_3, e107_5, e107_6, e107_9, e107_11, e107_12, e107_15, e107_16, e107_17, e107_20, e107_21, e107_22, e107_25, e107_27, e107_28, e107_29, e107_30, e107_31, e107_34, e107_37, e107_38, eq_self, kcat_nil, kcat_int, kcat_long, kcat_ref, kNL_int, kNL_ref, kNL_null, Option.toList_some, Option.toList_none, List.nil_append, List.cons_append, Nat.reduceAdd, Nat.reduceLeDiff, Nat.reduceEqDiff, true_and, and_true, true_or, or_true, false_or, or_false, ite_true, ite_false, my1, my2, my7, my12, li24, li11, kin_nI (show 24 < 137 by decide) (by decide), clN (show 24 < 2 ^ 31 by decide), e24, hlt, y_at, nI_add, kin_nI (show 53 + 12 * j + 11 < 137 by omega) (by decide), clN (show 53 + 12 * j + 11 < 2 ^ 31 by omega), ec, nI_add1]
      rw [show j + 1 - f = (j - f) + 1 from by omega, nsum]
  rw [← loop (p 24 + 1 - f) f (Nat.le_refl _) (by omega), Nat.sub_self]
  simp only [e107_0, e107_1, e107_2, e107_3, e107_5, e107_6, e107_9, e107_11, e107_12, e107_15, e107_16, e107_17, e107_20, e107_21, e107_22, e107_25, e107_27, e107_28, e107_29, e107_30, e107_31, e107_34, e107_37, e107_38, eq_self, kcat_nil, kcat_int, kcat_long, kcat_ref, kNL_int, kNL_ref, kNL_null, Option.toList_some, Option.toList_none, List.nil_append, List.cons_append, Nat.reduceAdd, Nat.reduceLeDiff, Nat.reduceEqDiff, true_and, and_true, true_or, or_true, false_or, or_false, ite_true, ite_false, nI_0', nsum]
theorem y_isTold {M : KMem} {p : NR} {Q : Option Value → KMem → Prop} (hR : RowM M p) (hn : p 24 ≤ 6) (h49 : p 49 ≤ 1) (htot : totN p ≤ 99990) : kE 108 0 [.ref 166] [] M Q = if p 49 = 1 ∧ 0 < colN p 0 then Q (some (.int 1)) M else Q (some (.int 0)) M := by
  have e49 : M 167 49 = nI (p 49) := hR 49 (by decide)
  have hc := col_le (f := 0) hn
  have hx : ∀ Q', kE 107 0 [.ref 166, .int 0, .null, .null] [] M Q' = Q' (some (.int (nI (colN p 0)))) M := fun Q' => y_collected (f := 0) hR hn (by omega)
  have z1 : (nI (p 49) = 1) ↔ p 49 = 1 := nI_eq_iff (b := 1) (by omega) (by decide)
  have z2 : (nI (colN p 0) ≤ 0) ↔ colN p 0 ≤ 0 := nI_le_iff (b := 0) (by omega) (by decide)
  simp only [e108_0, e108_1, e108_4, e108_6, e108_7, e108_8, e108_11, e108_12, e108_13, e108_16, e108_19, e108_20, e108_23, e108_24, eq_self, kcat_nil, kcat_int, kcat_long, kcat_ref, kNL_int, kNL_ref, kNL_null, Option.toList_some, Option.toList_none, List.nil_append, List.cons_append, Nat.reduceAdd, Nat.reduceLeDiff, Nat.reduceEqDiff, true_and, and_true, true_or, or_true, false_or, or_false, ite_true, ite_false, my1, my2, my7, my12, li49, kin_nI (show 49 < 137 by decide) (by decide), clN (show 49 < 2 ^ 31 by decide), e49, hx, z1, z2]
  by_cases h1 : p 49 = 1
  · rw [if_neg (fun z => z h1)]
    by_cases h2 : colN p 0 = 0
    · rw [if_pos (by omega), if_neg (by omega)]
    · rw [if_neg (by omega), if_pos (by omega)]
  · rw [if_pos h1, if_neg (fun z => h1 z.1)]
theorem y_passes {t : Nat} {M : KMem} {p : NR} {Q : Option Value → KMem → Prop} (hR : RowM M p) (hn : p 24 ≤ 6) (ht : t < p 24) (htot : totN p ≤ 99990) (hc : 0 < colN p 0) : kE 109 0 [.ref 166, .int (nI t)] [] M Q = Q (some (.int (nI (passN p t)))) M := by
  have hx : ∀ Q', kE 107 0 [.ref 166, .int 0, .null, .null] [] M Q' = Q' (some (.int (nI (colN p 0)))) M := fun Q' => y_collected (f := 0) hR hn (by omega)
  have hy : ∀ Q', kE 107 0 [.ref 166, .int (nI (t + 1)), .null, .null] [] M Q' = Q' (some (.int (nI (colN p (t + 1))))) M := fun Q' => y_collected (f := t + 1) hR hn (by omega)
  have h0 := col_le (f := 0) hn
  have h1 := col_le (f := t + 1) hn
  have hz : ¬ lN (colN p 0) = 0 := by rw [show (0 : Int64) = lN 0 from rfl, pk_lEQ (by omega) (by decide)]; omega
  simp only [e109_0, e109_1, e109_2, e109_3, e109_4, e109_7, e109_8, e109_11, e109_12, e109_13, e109_14, e109_17, e109_18, e109_19, e109_20, eq_self, kcat_nil, kcat_int, kcat_long, kcat_ref, kNL_int, kNL_ref, kNL_null, Option.toList_some, Option.toList_none, List.nil_append, List.cons_append, Nat.reduceAdd, Nat.reduceLeDiff, Nat.reduceEqDiff, true_and, and_true, true_or, or_true, false_or, or_false, ite_true, ite_false, my1, nI_add1, hx, hy, nI_l (show colN p 0 < 2 ^ 31 by omega), nI_l (show colN p (t + 1) < 2 ^ 31 by omega), hz, not_false_eq_true]
  rw [show (1000 : Int64) = lN 1000 from rfl, lN_mul, pk_lDiv (by omega) hc (by omega), lN_i]
  rfl
theorem sub_sub32 (a b c : Nat) (h : b + c ≤ a) : nI (a - b) - nI c = nI (a - (b + c)) := by rw [pk_sub (by omega), Nat.sub_sub]
theorem y_lost {M : KMem} {p : NR} {Q : Option Value → KMem → Prop} (hR : RowM M p) (hn : p 24 ≤ 6) (htot : totN p ≤ p 50) : kE 104 0 [.ref 166, .null, .null] [] M Q = Q (some (.int (nI (lostN p)))) M := by
  have e24 : M 167 24 = nI (p 24) := hR 24 (by decide)
  have e50 : M 167 50 = nI (p 50) := hR 50 (by decide)
  have hkept := kept_le hn
  have loop : ∀ d j, j + d = p 24 + 1 → kE 104 10 [.ref 166, .int (nI (p 50 - nsum (fun t => sumN p (53 + 12 * t) + p (53 + 12 * t + 10) + p (53 + 12 * t + 11)) j)), .int (nI j)] [] M Q = Q (some (.int (nI (lostN p)))) M := by
    intro d
    induction d with
    | zero =>
      intro j hj
      have hlt : nI (p 24) < nI j := (nI_lt_iff (by omega) (by omega)).mpr (by omega)
      have : j = p 24 + 1 := by omega
      rw [e104_10]
      simp only [e104_0, e104_1, e104_4, e104_6, e104_7, e104_8, e104_9, e104_11, e104_12, e104_15, e104_17, e104_18, e104_21, e104_22, e104_23, e104_24, e104_25, e104_28, e104_31, e104_32, e104_35, e104_36, e104_37, e104_40, e104_42, e104_43, e104_44, e104_45, e104_46, e104_49, e104_50, e104_51, e104_54, e104_56, e104_57, e104_58, e104_59, e104_60, e104_61, e104_64, e104_67, e104_68, eq_self, kcat_nil, kcat_int, kcat_long, kcat_ref, kNL_int, kNL_ref, kNL_null, Option.toList_some, Option.toList_none, List.nil_append, List.cons_append, Nat.reduceAdd, Nat.reduceLeDiff, Nat.reduceEqDiff, true_and, and_true, true_or, or_true, false_or, or_false, ite_true, ite_false, my1, my2, my7, my12, li24, kin_nI (show 24 < 137 by decide) (by decide), clN (show 24 < 2 ^ 31 by decide), e24, hlt]
      rw [this]
      rfl
    | succ d ih =>
      intro j hj
      have hlt : ¬ nI (p 24) < nI j := nI_nlt (by omega) (by omega)
      have hle : nsum (fun t => sumN p (53 + 12 * t) + p (53 + 12 * t + 10) + p (53 + 12 * t + 11)) (j + 1) ≤ keptN p := nsum_le_n (by omega)
      rw [nsum] at hle
      rw [← ih (j + 1) (by omega), e104_10]
      simp only [e104_0, e104_1, e104_4, e104_6, e104_7, e104_8, e104_9, e104_11, e104_12, e104_15, e104_17, e104_18, e104_21, e104_22, e104_23, e104_24, e104_25, e104_28, e104_31, e104_32, e104_35, e104_36, e104_37, e104_40, e104_42, e104_43, e104_44, e104_45, e104_46, e104_49, e104_50, e104_51, e104_54, e104_56, e104_57, e104_58, e104_59, e104_60, e104_61, e104_64, e104_67, e104_68, eq_self, kcat_nil, kcat_int, kcat_long, kcat_ref, kNL_int, kNL_ref, kNL_null, Option.toList_some, Option.toList_none, List.nil_append, List.cons_append, Nat.reduceAdd, Nat.reduceLeDiff, Nat.reduceEqDiff, true_and, and_true, true_or, or_true, false_or, or_false, ite_true, ite_false, my1, my2, my7, my12, li24, li10, li11, kin_nI (show 24 < 137 by decide) (by decide), clN (show 24 < 2 ^ 31 by decide), e24, hlt, y_at, y_sum hR (show 53 + 12 * j + 10 ≤ 137 by omega), nI_add, kin_nI (show 53 + 12 * j + 11 < 137 by omega) (by decide), clN (show 53 + 12 * j + 11 < 2 ^ 31 by omega), hR (53 + 12 * j + 11) (by omega), kin_nI (show 53 + 12 * j + 10 < 137 by omega) (by decide), clN (show 53 + 12 * j + 10 < 2 ^ 31 by omega), hR (53 + 12 * j + 10) (by omega), nI_add1, nsum]
      rw [sub_sub32 _ _ _ (by omega)]
  rw [← loop (p 24 + 1) 0 (by omega)]
  simp only [e104_0, e104_1, e104_4, e104_6, e104_7, e104_8, e104_9, e104_11, e104_12, e104_15, e104_17, e104_18, e104_21, e104_22, e104_23, e104_24, e104_25, e104_28, e104_31, e104_32, e104_35, e104_36, e104_37, e104_40, e104_42, e104_43, e104_44, e104_45, e104_46, e104_49, e104_50, e104_51, e104_54, e104_56, e104_57, e104_58, e104_59, e104_60, e104_61, e104_64, e104_67, e104_68, eq_self, kcat_nil, kcat_int, kcat_long, kcat_ref, kNL_int, kNL_ref, kNL_null, Option.toList_some, Option.toList_none, List.nil_append, List.cons_append, Nat.reduceAdd, Nat.reduceLeDiff, Nat.reduceEqDiff, true_and, and_true, true_or, or_true, false_or, or_false, ite_true, ite_false, my1, my2, my7, my12, li50, kin_nI (show 50 < 137 by decide) (by decide), clN (show 50 < 2 ^ 31 by decide), e50, nI_0', nsum, Nat.sub_zero]
theorem y_divides {b : Bool} {M : KMem} {p : NR} {Q : Option Value → KMem → Prop} (hR : RowM M p) (hs : ∀ k, k < 10 → p k ≤ 9999) (hQ : ∀ M', RowM M' (divN p b) → OffY M M' → Q none M') :
    kE 74 0 [.ref 166, .int (if b = true then 0 else 1), .null, .null, .null, .null] [] M Q := by
  have hodd : ∀ j, j ≤ 10 → oddN p j ≤ 10 := by
    intro j hj
    have : ∀ j, oddN p j ≤ j := by
      intro j
      induction j with
      | zero => exact Nat.le_refl _
      | succ j ih => rw [oddN]; omega
    have := this j
    omega
  have loop : ∀ d j, j + d = 10 → ∀ M1 v4 v5, kNL v4 = true → kNL v5 = true → RowM M1 (dvN p b j) → OffY M M1 → kE 74 4 [.ref 166, .int (if b = true then 0 else 1), .int (nI (oddN p j)), .int (nI j), v4, v5] [] M1 Q := by
    intro d
    induction d with
    | zero =>
      intro j hj M1 v4 v5 h4 h5 h hO
      have : j = 10 := by omega
      subst this
      have le : (10 : Int32) ≤ nI 10 := by decide
      rw [e74_4]
      simp only [e74_0, e74_1, e74_2, e74_3, e74_5, e74_7, e74_10, e74_11, e74_14, e74_15, e74_16, e74_17, e74_18, e74_20, e74_22, e74_23, e74_24, e74_26, e74_27, e74_28, e74_29, e74_32, e74_33, e74_34, e74_35, e74_38, e74_39, e74_42, e74_43, e74_44, e74_46, e74_47, e74_49, e74_50, e74_51, e74_52, e74_53, e74_54, e74_57, e74_58, e74_59, e74_60, e74_61, e74_64, e74_66, e74_69, e74_71, e74_73, e74_74, e74_75, e74_76, e74_79, e74_81, e74_82, e74_83, e74_84, e74_85, e74_86, e74_89, e74_91, e74_93, e74_94, e74_97, e74_99, e74_100, e74_101, e74_104, e74_107, eq_self, kcat_nil, kcat_int, kcat_long, kcat_ref, kNL_int, kNL_ref, kNL_null, Option.toList_some, Option.toList_none, List.nil_append, List.cons_append, Nat.reduceAdd, Nat.reduceLeDiff, Nat.reduceEqDiff, true_and, and_true, true_or, or_true, false_or, or_false, ite_true, ite_false, le]
      exact hQ M1 (h.congr (fun i _ => (dvN_10 p b i).symm)) hO
    | succ d ih =>
      intro j hj M1 v4 v5 h4 h5 h hO
      have hj10 : j < 10 := by omega
      have nle : ¬ (10 : Int32) ≤ nI j := by rw [li10]; exact nI_ge (by omega) (by decide)
      have em : M1 167 j = nI (p j) := by
        rw [h j (by omega)]
        unfold dvN
        rw [if_pos hj10, if_neg (by omega)]
      have er : M1 167 (10 + j) = nI (p (10 + j)) := by
        rw [h (10 + j) (by omega)]
        unfold dvN
        rw [if_neg (by omega), if_pos (by omega), if_neg (by omega)]
      have hm := hs j hj10
      have ho := hodd j (by omega)
      have ed : nI (p j) / 2 = nI (p j / 2) := by rw [li2, pk_div (by omega) (by decide) (by decide)]
      have e2 : k_irem (nI (p j)) 2 = nI (p j % 2) := by unfold k_irem; rw [li2, pk_rem (by omega) (by decide) (by decide)]
      have e3 : k_irem (nI (oddN p j)) 2 = nI (oddN p j % 2) := by unfold k_irem; rw [li2, pk_rem (by omega) (by decide) (by decide)]
      have n2 : ¬ (2 : Int32) = 0 := by decide
      have n10 : ¬ (1 : Int32) = 0 := by decide
      have z1 : (nI (p j % 2) = 1) ↔ p j % 2 = 1 := nI_eq_iff (b := 1) (by omega) (by decide)
      have z2 : (nI (oddN p j % 2) = 0) ↔ oddN p j % 2 = 0 := nI_eq_iff (b := 0) (by omega) (by decide)
      have z0 : (0 : Int32) + nI j = nI j := Int32.zero_add _
      have key : ∀ L : Nat, L = lftN p j → L ≤ p j → kE 74 4 [.ref 166, .int (if b = true then 0 else 1), .int (nI (oddN p j + p j % 2)), .int (nI (j + 1)), .int (nI (p j)), .int (nI L)] [] (mset (mset M1 167 j (if b = true then nI L else nI (p j - L))) 167 (10 + j) (nI (p (10 + j)) + (if b = true then nI (p j - L) else nI L))) Q := by
        intro L hL _
        subst hL
        refine ih (j + 1) (by omega) _ _ _ rfl rfl ?_ ((hO.set _ _).set _ _)
        have s1 := h.set j (if b = true then lftN p j else p j - lftN p j)
        have s2 := s1.set (10 + j) (p (10 + j) + (if b = true then p j - lftN p j else lftN p j))
        have q1 : (if b = true then nI (lftN p j) else nI (p j - lftN p j)) = nI (if b = true then lftN p j else p j - lftN p j) := by split <;> rfl
        have q2 : nI (p (10 + j)) + (if b = true then nI (p j - lftN p j) else nI (lftN p j)) = nI (p (10 + j) + (if b = true then p j - lftN p j else lftN p j)) := by rw [← nI_add]; split <;> rfl
        rw [q1, q2]
        exact s2.congr (fun i _ => (dvN_s hj10 i).symm)
      have ex : ∀ L : Nat, L = lftN p j → L ≤ p j → kE 74 44 [.ref 166, .int (if b = true then 0 else 1), .int (nI (oddN p j)), .int (nI j), .int (nI (p j)), v5] [.int (nI L)] M1 Q := by
        intro L hL hLe
        have := key L hL hLe
        have hsub := pk_sub hLe
        cases b
        · simp only [e74_0, e74_1, e74_2, e74_3, e74_5, e74_7, e74_10, e74_11, e74_14, e74_15, e74_16, e74_17, e74_18, e74_20, e74_22, e74_23, e74_24, e74_26, e74_27, e74_28, e74_29, e74_32, e74_33, e74_34, e74_35, e74_38, e74_39, e74_42, e74_43, e74_44, e74_46, e74_47, e74_49, e74_50, e74_51, e74_52, e74_53, e74_54, e74_57, e74_58, e74_59, e74_60, e74_61, e74_64, e74_66, e74_69, e74_71, e74_73, e74_74, e74_75, e74_76, e74_79, e74_81, e74_82, e74_83, e74_84, e74_85, e74_86, e74_89, e74_91, e74_93, e74_94, e74_97, e74_99, e74_100, e74_101, e74_104, e74_107, eq_self, kcat_nil, kcat_int, kcat_long, kcat_ref, kNL_int, kNL_ref, kNL_null, Option.toList_some, Option.toList_none, List.nil_append, List.cons_append, Nat.reduceAdd, Nat.reduceLeDiff, Nat.reduceEqDiff, true_and, and_true, true_or, or_true, false_or, or_false, ite_true, ite_false, h4, h5, my1, my2, my7, my12, z0, li10, nI_add, kin_nI (show j < 137 by omega) (by decide), clN (show j < 2 ^ 31 by omega), kin_nI (show 10 + j < 137 by omega) (by decide), clN (show 10 + j < 2 ^ 31 by omega), e2, n2, n10, not_false_eq_true, hsub, mset_ne (show ¬ (167 = 167 ∧ 10 + j = j) by omega), er, nI_add1, Bool.false_eq_true, if_false, if_true]
          simpa only [Bool.false_eq_true, if_false, nI_add] using this
        · simp only [e74_0, e74_1, e74_2, e74_3, e74_5, e74_7, e74_10, e74_11, e74_14, e74_15, e74_16, e74_17, e74_18, e74_20, e74_22, e74_23, e74_24, e74_26, e74_27, e74_28, e74_29, e74_32, e74_33, e74_34, e74_35, e74_38, e74_39, e74_42, e74_43, e74_44, e74_46, e74_47, e74_49, e74_50, e74_51, e74_52, e74_53, e74_54, e74_57, e74_58, e74_59, e74_60, e74_61, e74_64, e74_66, e74_69, e74_71, e74_73, e74_74, e74_75, e74_76, e74_79, e74_81, e74_82, e74_83, e74_84, e74_85, e74_86, e74_89, e74_91, e74_93, e74_94, e74_97, e74_99, e74_100, e74_101, e74_104, e74_107, eq_self, kcat_nil, kcat_int, kcat_long, kcat_ref, kNL_int, kNL_ref, kNL_null, Option.toList_some, Option.toList_none, List.nil_append, List.cons_append, Nat.reduceAdd, Nat.reduceLeDiff, Nat.reduceEqDiff, true_and, and_true, true_or, or_true, false_or, or_false, ite_true, ite_false, h4, h5, my1, my2, my7, my12, z0, li10, nI_add, kin_nI (show j < 137 by omega) (by decide), clN (show j < 2 ^ 31 by omega), kin_nI (show 10 + j < 137 by omega) (by decide), clN (show 10 + j < 2 ^ 31 by omega), e2, n2, n10, not_true_eq_false, not_false_eq_true, hsub, mset_ne (show ¬ (167 = 167 ∧ 10 + j = j) by omega), er, nI_add1, if_true, if_false]
          simpa only [if_true, nI_add] using this
      rw [e74_4]
      simp only [e74_0, e74_1, e74_2, e74_3, e74_5, e74_7, e74_10, e74_11, e74_14, e74_15, e74_16, e74_17, e74_18, e74_20, e74_22, e74_23, e74_24, e74_26, e74_27, e74_28, e74_29, e74_32, e74_33, e74_34, e74_35, e74_38, e74_39, e74_42, e74_43, e74_46, e74_47, e74_49, e74_50, e74_51, e74_52, e74_53, e74_54, e74_57, e74_58, e74_59, e74_60, e74_61, e74_64, e74_66, e74_69, e74_71, e74_73, e74_74, e74_75, e74_76, e74_79, e74_81, e74_82, e74_83, e74_84, e74_85, e74_86, e74_89, e74_91, e74_93, e74_94, e74_97, e74_99, e74_100, e74_101, e74_104, e74_107, eq_self, kcat_nil, kcat_int, kcat_long, kcat_ref, kNL_int, kNL_ref, kNL_null, Option.toList_some, Option.toList_none, List.nil_append, List.cons_append, Nat.reduceAdd, Nat.reduceLeDiff, Nat.reduceEqDiff, true_and, and_true, true_or, or_true, false_or, or_false, ite_true, ite_false, nle, my1, my2, my7, my12, z0, kin_nI (show j < 137 by omega) (by decide), clN (show j < 2 ^ 31 by omega), em, ed, e2, e3, n2, not_false_eq_true, z1, z2]
      by_cases hp : p j % 2 = 1
      · by_cases hq : oddN p j % 2 = 0
        · simp only [hp, hq, not_true_eq_false, if_false, nI_add1]
          exact ex (p j / 2 + 1) (by unfold lftN; rw [if_pos ⟨hp, hq⟩]) (by omega)
        · simp only [hp, hq, not_true_eq_false, not_false_eq_true, if_false, if_true, Int32.add_zero]
          exact ex (p j / 2) (by unfold lftN; rw [if_neg (fun z => hq z.2)]; omega) (by omega)
      · simp only [hp, not_false_eq_true, if_true, Int32.add_zero]
        exact ex (p j / 2) (by unfold lftN; rw [if_neg (fun z => hp z.1)]; omega) (by omega)
  simp only [e74_0, e74_1, e74_2, e74_3, e74_5, e74_7, e74_10, e74_11, e74_14, e74_15, e74_16, e74_17, e74_18, e74_20, e74_22, e74_23, e74_24, e74_26, e74_27, e74_28, e74_29, e74_32, e74_33, e74_34, e74_35, e74_38, e74_39, e74_42, e74_43, e74_44, e74_46, e74_47, e74_49, e74_50, e74_51, e74_52, e74_53, e74_54, e74_57, e74_58, e74_59, e74_60, e74_61, e74_64, e74_66, e74_69, e74_71, e74_73, e74_74, e74_75, e74_76, e74_79, e74_81, e74_82, e74_83, e74_84, e74_85, e74_86, e74_89, e74_91, e74_93, e74_94, e74_97, e74_99, e74_100, e74_101, e74_104, e74_107, eq_self, kcat_nil, kcat_int, kcat_long, kcat_ref, kNL_int, kNL_ref, kNL_null, Option.toList_some, Option.toList_none, List.nil_append, List.cons_append, Nat.reduceAdd, Nat.reduceLeDiff, Nat.reduceEqDiff, true_and, and_true, true_or, or_true, false_or, or_false, ite_true, ite_false]
  exact loop 10 0 rfl M _ _ rfl rfl (hR.congr (fun i _ => dvN_0 p b i)) OffY.rfl'
def YR (S : KS) (M : KMem) : Prop :=
  RowM M S.1 ∧ M 166 2 = nI S.2.1 ∧ S.2.1 ≤ 6 ∧ (∀ j, j < S.2.1 → ∀ i, i < 137 → M 168 (137 * (S.2.1 - 1 - j) + i) = nI (S.2.2.1 j i)) ∧ M 166 4 = nI S.2.2.2.1 ∧ S.2.2.2.1 ≤ 80 ∧ (∀ i, i < S.2.2.2.1 → M 169 i = k_i2b (nI (S.2.2.2.2 i)))
theorem YR.moved {S : KS} {M M' : KMem} (h : YR S M) (h' : Fx M M') : YR S M' := by
  obtain ⟨h1, h2, h3, h4, h5, h6, h7⟩ := h
  exact ⟨h1.off (h' 167 (by decide)), by rw [h' 166 (by decide)]; exact h2, h3, fun j hj i hi => by rw [h' 168 (by decide)]; exact h4 j hj i hi, by rw [h' 166 (by decide)]; exact h5, h6, fun i hi => by rw [h' 169 (by decide)]; exact h7 i hi⟩
theorem YR.cur {S : KS} {M M' : KMem} {p : NR} (h : YR S M) (h' : OffY M M') (hp : RowM M' p) : YR (p, S.2) M' := by
  obtain ⟨h1, h2, h3, h4, h5, h6, h7⟩ := h
  exact ⟨hp, by rw [h' 166 (by decide)]; exact h2, h3, fun j hj i hi => by rw [h' 168 (by decide)]; exact h4 j hj i hi, by rw [h' 166 (by decide)]; exact h5, h6, fun i hi => by rw [h' 169 (by decide)]; exact h7 i hi⟩
theorem OffY.fy {M M' : KMem} (h : OffY M M') : Fy M M' := fun c hc => h c (by omega)
theorem y_notes {S : KS} {M : KMem} {Q : Option Value → KMem → Prop} (hY : YR S M) (hQ : ∀ M', YR (sav S) M' → Fy M M' → M' 167 = M 167 → (∀ c, 169 ≤ c → M' c = M c) → (∀ j, j ≠ 2 → M' 166 j = M 166 j) → Q none M') : kE 67 0 [.ref 166, .null] [] M Q := by
  obtain ⟨h1, h2, h3, h4, h5, h6, h7⟩ := hY
  -- the second half: the state comes to place n
  have second : ∀ (n : Nat) (M0 : KMem) (v1 : Value), n < 6 → M0 166 2 = nI n → M0 167 = M 167 → (∀ c, c ≠ 166 → c ≠ 168 → M0 c = M c) → (∀ j, j ≠ 2 → M0 166 j = M 166 j) → n + 1 = min (S.2.1 + 1) 6 → (∀ j, j < n → ∀ i, i < 137 → M0 168 (137 * (n - 1 - j) + i) = nI (S.2.2.1 j i)) → kNL v1 = true → kE 67 50 [.ref 166, v1] [] M0 Q := by
    intro n M0 v1 hn e2 e7 eo ej hL hps hv
    have loop : ∀ d j, j + d = 137 → ∀ M1, M1 166 = M0 166 → (∀ c, c ≠ 168 → M1 c = M0 c) → (∀ i, i < 137 * n → M1 168 i = M0 168 i) → (∀ i, i < j → M1 168 (137 * n + i) = nI (S.1 i)) → kE 67 52 [.ref 166, .int (nI j)] [] M1 Q := by
      intro d
      induction d with
      | zero =>
        intro j hj M1 f6 fo fl fr
        have : j = 137 := by omega
        subst this
        have le : (137 : Int32) ≤ nI 137 := by decide
        rw [e67_52]
        simp only [e67_0, e67_1, e67_4, e67_6, e67_9, e67_10, e67_11, e67_12, e67_15, e67_18, e67_19, e67_22, e67_23, e67_24, e67_27, e67_28, e67_31, e67_32, e67_33, e67_34, e67_37, e67_40, e67_41, e67_41r, e67_42, e67_45, e67_46, e67_47, e67_50, e67_51, e67_53, e67_56, e67_59, e67_60, e67_63, e67_66, e67_67, e67_70, e67_71, e67_72, e67_73, e67_74, e67_77, e67_78, e67_79, e67_80, e67_83, e67_86, e67_87, e67_87r, e67_88, e67_91, e67_92, e67_93, e67_96, eq_self, kcat_nil, kcat_int, kcat_long, kcat_ref, kNL_int, kNL_ref, kNL_null, Option.toList_some, Option.toList_none, List.nil_append, List.cons_append, Nat.reduceAdd, Nat.reduceLeDiff, Nat.reduceEqDiff, true_and, and_true, true_or, or_true, false_or, or_false, ite_true, ite_false, le, my1, f6, e2, nI_add1]
        refine hQ _ ⟨?_, ?_, ?_, ?_, ?_, h6, ?_⟩ ?_ ?_ ?_ ?_
        · exact h1.off (by rw [mset_off (by decide), fo 167 (by decide), e7])
        · show mset M1 166 2 (nI (n + 1)) 166 2 = nI (min (S.2.1 + 1) 6)
          rw [mset_eq, hL]
        · show min (S.2.1 + 1) 6 ≤ 6
          omega
        · intro j hj i hi
          have hj : j < min (S.2.1 + 1) 6 := hj
          show mset M1 166 2 (nI (n + 1)) 168 (137 * (min (S.2.1 + 1) 6 - 1 - j) + i) = nI (psS S.1 S.2.2.1 j i)
          rw [mset_off (by decide), ← hL]
          unfold psS
          by_cases hj0 : j = 0
          · subst hj0
            rw [if_pos rfl, show n + 1 - 1 - 0 = n from by omega]
            exact fr i hi
          · rw [if_neg hj0, show n + 1 - 1 - j = n - 1 - (j - 1) from by omega, fl _ (by
              have : n - 1 - (j - 1) + 1 ≤ n := by omega
              have := Nat.mul_le_mul_left 137 this
              omega)]
            exact hps (j - 1) (by omega) i hi
        · show mset M1 166 2 (nI (n + 1)) 166 4 = nI S.2.2.2.1
          rw [mset_ne (by omega), f6, ej 4 (by decide)]
          exact h5
        · intro i hi
          show mset M1 166 2 (nI (n + 1)) 169 i = _
          rw [mset_off (by decide), fo 169 (by decide), eo 169 (by decide) (by decide)]
          exact h7 i hi
        · intro c hc
          rw [mset_off (by omega), fo c (by omega), eo c (by omega) (by omega)]
        · rw [mset_off (by decide), fo 167 (by decide), e7]
        · intro c hc
          rw [mset_off (by omega), fo c (by omega), eo c (by omega) (by omega)]
        · intro j hj
          rw [mset_ne (by omega), f6]
          exact ej j hj
      | succ d ih =>
        intro j hj M1 f6 fo fl fr
        have nle : ¬ nI 137 ≤ nI j := nI_ge (by omega) (by decide)
        have hb : 137 * n + j < 822 := by omega
        have es : M1 167 j = nI (S.1 j) := by rw [fo 167 (by decide), e7]; exact h1 j (by omega)
        rw [e67_52]
        simp only [e67_0, e67_1, e67_4, e67_6, e67_9, e67_10, e67_11, e67_12, e67_15, e67_18, e67_19, e67_22, e67_23, e67_24, e67_27, e67_28, e67_31, e67_32, e67_33, e67_34, e67_37, e67_40, e67_41, e67_41r, e67_42, e67_45, e67_46, e67_47, e67_50, e67_51, e67_53, e67_56, e67_59, e67_60, e67_63, e67_66, e67_67, e67_70, e67_71, e67_72, e67_73, e67_74, e67_77, e67_78, e67_79, e67_80, e67_83, e67_86, e67_87, e67_87r, e67_88, e67_91, e67_92, e67_93, e67_96, eq_self, kcat_nil, kcat_int, kcat_long, kcat_ref, kNL_int, kNL_ref, kNL_null, Option.toList_some, Option.toList_none, List.nil_append, List.cons_append, Nat.reduceAdd, Nat.reduceLeDiff, Nat.reduceEqDiff, true_and, and_true, true_or, or_true, false_or, or_false, ite_true, ite_false, nle, my1, my2, my3, my7, my8, my12, my13, f6, e2, li137, pk_mul, nI_add, kin_nI hb (by decide), clN (show 137 * n + j < 2 ^ 31 by omega), kin_nI (show j < 137 by omega) (by decide), clN (show j < 2 ^ 31 by omega), es, nI_add1]
        refine ih (j + 1) (by omega) _ (by rw [mset_off (by decide)]; exact f6) (fun c hc => by rw [mset_off hc]; exact fo c hc) (fun i hi => by rw [mset_ne (by omega)]; exact fl i hi) (fun i hi => ?_)
        by_cases hij : i = j
        · subst hij; exact mset_eq _ _ _ _
        · rw [mset_ne (by omega)]; exact fr i (by omega)
    simp only [e67_0, e67_1, e67_4, e67_6, e67_9, e67_10, e67_11, e67_12, e67_15, e67_18, e67_19, e67_22, e67_23, e67_24, e67_27, e67_28, e67_31, e67_32, e67_33, e67_34, e67_37, e67_40, e67_41, e67_41r, e67_42, e67_45, e67_46, e67_47, e67_50, e67_51, e67_53, e67_56, e67_59, e67_60, e67_63, e67_66, e67_67, e67_70, e67_71, e67_72, e67_73, e67_74, e67_77, e67_78, e67_79, e67_80, e67_83, e67_86, e67_87, e67_87r, e67_88, e67_91, e67_92, e67_93, e67_96, eq_self, kcat_nil, kcat_int, kcat_long, kcat_ref, kNL_int, kNL_ref, kNL_null, Option.toList_some, Option.toList_none, List.nil_append, List.cons_append, Nat.reduceAdd, Nat.reduceLeDiff, Nat.reduceEqDiff, true_and, and_true, true_or, or_true, false_or, or_false, ite_true, ite_false, hv]
    exact loop 137 0 rfl M0 rfl (fun _ _ => rfl) (fun _ _ => rfl) (fun i hi => by omega)
  have z6 : (nI S.2.1 = 6) ↔ S.2.1 = 6 := nI_eq_iff (b := 6) (by omega) (by decide)
  by_cases hL : S.2.1 = 6
  · have loop : ∀ d j, j + d = 685 → ∀ M1, (∀ c, c ≠ 168 → M1 c = M c) → (∀ i, i < j → M1 168 i = M 168 (i + 137)) → (∀ i, j ≤ i → M1 168 i = M 168 i) → kE 67 11 [.ref 166, .int (nI j)] [] M1 Q := by
      intro d
      induction d with
      | zero =>
        intro j hj M1 fo fl fr
        have : j = 685 := by omega
        subst this
        have le : (685 : Int32) ≤ nI 685 := by decide
        have e2 : M1 166 2 = nI 6 := by rw [fo 166 (by decide), h2, hL]
        have e5 : nI 6 - 1 = nI 5 := by decide
        rw [e67_11]
        simp only [e67_0, e67_1, e67_4, e67_6, e67_9, e67_10, e67_12, e67_15, e67_18, e67_19, e67_22, e67_23, e67_24, e67_27, e67_28, e67_31, e67_32, e67_33, e67_34, e67_37, e67_40, e67_41, e67_41r, e67_42, e67_45, e67_46, e67_47, e67_51, e67_52, e67_53, e67_56, e67_59, e67_60, e67_63, e67_66, e67_67, e67_70, e67_71, e67_72, e67_73, e67_74, e67_77, e67_78, e67_79, e67_80, e67_83, e67_86, e67_87, e67_87r, e67_88, e67_91, e67_92, e67_93, e67_96, eq_self, kcat_nil, kcat_int, kcat_long, kcat_ref, kNL_int, kNL_ref, kNL_null, Option.toList_some, Option.toList_none, List.nil_append, List.cons_append, Nat.reduceAdd, Nat.reduceLeDiff, Nat.reduceEqDiff, true_and, and_true, true_or, or_true, false_or, or_false, ite_true, ite_false, le, my1, e2, e5]
        refine second 5 _ _ (by decide) (mset_eq _ _ _ _) (by rw [mset_off (by decide)]; exact fo 167 (by decide)) (fun c hc hc2 => by rw [mset_off hc]; exact fo c hc2) (fun j hj => by rw [mset_ne (by omega), fo 166 (by decide)]) (by omega) (fun j hj i hi => ?_) rfl
        rw [mset_off (by decide), fl _ (by omega)]
        have := h4 j (by omega) i hi
        rw [hL] at this
        rw [← this]
        congr 1
        omega
      | succ d ih =>
        intro j hj M1 fo fl fr
        have nle : ¬ (685 : Int32) ≤ nI j := by rw [li685]; exact nI_ge (by omega) (by decide)
        have f6 : M1 166 = M 166 := fo 166 (by decide)
        rw [e67_11]
        simp only [e67_0, e67_1, e67_4, e67_6, e67_9, e67_10, e67_12, e67_15, e67_18, e67_19, e67_22, e67_23, e67_24, e67_27, e67_28, e67_31, e67_32, e67_33, e67_34, e67_37, e67_40, e67_41, e67_41r, e67_42, e67_45, e67_46, e67_47, e67_51, e67_52, e67_53, e67_56, e67_59, e67_60, e67_63, e67_66, e67_67, e67_70, e67_71, e67_72, e67_73, e67_74, e67_77, e67_78, e67_79, e67_80, e67_83, e67_86, e67_87, e67_87r, e67_88, e67_91, e67_92, e67_93, e67_96, eq_self, kcat_nil, kcat_int, kcat_long, kcat_ref, kNL_int, kNL_ref, kNL_null, Option.toList_some, Option.toList_none, List.nil_append, List.cons_append, Nat.reduceAdd, Nat.reduceLeDiff, Nat.reduceEqDiff, true_and, and_true, true_or, or_true, false_or, or_false, ite_true, ite_false, nle, my1, my3, my8, my13, li137, nI_add, kin_nI (show j < 822 by omega) (by decide), clN (show j < 2 ^ 31 by omega), kin_nI (show j + 137 < 822 by omega) (by decide), clN (show j + 137 < 2 ^ 31 by omega), nI_add1]
        refine ih (j + 1) (by omega) _ (fun c hc => by rw [mset_off hc]; exact fo c hc) (fun i hi => ?_) (fun i hi => by rw [mset_ne (by omega)]; exact fr i (by omega))
        by_cases hij : i = j
        · subst hij; rw [mset_eq, fr _ (by omega)]
        · rw [mset_ne (by omega)]; exact fl i (by omega)
    simp only [e67_0, e67_1, e67_4, e67_6, e67_9, e67_10, e67_12, e67_15, e67_18, e67_19, e67_22, e67_23, e67_24, e67_27, e67_28, e67_31, e67_32, e67_33, e67_34, e67_37, e67_40, e67_41, e67_41r, e67_42, e67_45, e67_46, e67_47, e67_51, e67_52, e67_53, e67_56, e67_59, e67_60, e67_63, e67_66, e67_67, e67_70, e67_71, e67_72, e67_73, e67_74, e67_77, e67_78, e67_79, e67_80, e67_83, e67_86, e67_87, e67_87r, e67_88, e67_91, e67_92, e67_93, e67_96, eq_self, kcat_nil, kcat_int, kcat_long, kcat_ref, kNL_int, kNL_ref, kNL_null, Option.toList_some, Option.toList_none, List.nil_append, List.cons_append, Nat.reduceAdd, Nat.reduceLeDiff, Nat.reduceEqDiff, true_and, and_true, true_or, or_true, false_or, or_false, ite_true, ite_false, my1, h2, z6, hL, not_true_eq_false, if_false]
    exact loop 685 0 rfl M (fun _ _ => rfl) (fun i hi => by omega) (fun _ _ => rfl)
  · simp only [e67_0, e67_1, e67_4, e67_6, e67_9, e67_10, e67_12, e67_15, e67_18, e67_19, e67_22, e67_23, e67_24, e67_27, e67_28, e67_31, e67_32, e67_33, e67_34, e67_37, e67_40, e67_41, e67_41r, e67_42, e67_45, e67_46, e67_47, e67_51, e67_52, e67_53, e67_56, e67_59, e67_60, e67_63, e67_66, e67_67, e67_70, e67_71, e67_72, e67_73, e67_74, e67_77, e67_78, e67_79, e67_80, e67_83, e67_86, e67_87, e67_87r, e67_88, e67_91, e67_92, e67_93, e67_96, eq_self, kcat_nil, kcat_int, kcat_long, kcat_ref, kNL_int, kNL_ref, kNL_null, Option.toList_some, Option.toList_none, List.nil_append, List.cons_append, Nat.reduceAdd, Nat.reduceLeDiff, Nat.reduceEqDiff, true_and, and_true, true_or, or_true, false_or, or_false, ite_true, ite_false, my1, h2, z6, hL, not_false_eq_true, if_true]
    exact second S.2.1 M .null (by omega) h2 rfl (fun _ _ _ => rfl) (fun _ _ => rfl) (by omega) h4 rfl
theorem y_undo {S : KS} {M : KMem} {Q : Option Value → KMem → Prop} (hY : YR S M) (hQ1 : S.2.1 = 0 → Q (some (.int (-2))) M) (hQ : ∀ M', 0 < S.2.1 → YR (und S) M' → Fy M M' → Q (some (.int (nI (S.2.1 - 1)))) M') : kE 68 0 [.ref 166, .null] [] M Q := by
  obtain ⟨h1, h2, h3, h4, h5, h6, h7⟩ := hY
  have z0 : (nI S.2.1 = 0) ↔ S.2.1 = 0 := nI_eq_iff (b := 0) (by omega) (by decide)
  by_cases hL : S.2.1 = 0
  · simp only [e68_0, e68_1, e68_4, e68_7, e68_9, e68_10, e68_11, e68_11r, e68_12, e68_15, e68_16, e68_17, e68_20, e68_21, e68_23, e68_26, e68_29, e68_30, e68_33, e68_34, e68_35, e68_38, e68_41, e68_42, e68_45, e68_46, e68_47, e68_48, e68_49, e68_50, e68_53, e68_56, e68_57, e68_60, eq_self, kcat_nil, kcat_int, kcat_long, kcat_ref, kNL_int, kNL_ref, kNL_null, Option.toList_some, Option.toList_none, List.nil_append, List.cons_append, Nat.reduceAdd, Nat.reduceLeDiff, Nat.reduceEqDiff, true_and, and_true, true_or, or_true, false_or, or_false, ite_true, ite_false, my1, h2, z0, hL, not_true_eq_false, if_false]
    exact hQ1 hL
  obtain ⟨n, hn⟩ : ∃ n, n = S.2.1 - 1 := ⟨_, rfl⟩
  have em : nI S.2.1 - 1 = nI n := by rw [show (1 : Int32) = nI 1 from rfl, pk_sub (by omega), hn]
  have loop : ∀ d j, j + d = 137 → ∀ M1, (∀ c, c ≠ 167 → M1 c = mset M 166 2 (nI n) c) → (∀ i, i < j → M1 167 i = nI (S.2.2.1 0 i)) → kE 68 22 [.ref 166, .int (nI j)] [] M1 Q := by
    intro d
    induction d with
    | zero =>
      intro j hj M1 fo fl
      have : j = 137 := by omega
      subst this
      have le : (137 : Int32) ≤ nI 137 := by decide
      have e2 : M1 166 2 = nI n := by rw [fo 166 (by decide), mset_eq]
      rw [e68_22]
      simp only [e68_0, e68_1, e68_4, e68_7, e68_9, e68_10, e68_11, e68_11r, e68_12, e68_15, e68_16, e68_17, e68_20, e68_21, e68_23, e68_26, e68_29, e68_30, e68_33, e68_34, e68_35, e68_38, e68_41, e68_42, e68_45, e68_46, e68_47, e68_48, e68_49, e68_50, e68_53, e68_56, e68_57, e68_60, eq_self, kcat_nil, kcat_int, kcat_long, kcat_ref, kNL_int, kNL_ref, kNL_null, Option.toList_some, Option.toList_none, List.nil_append, List.cons_append, Nat.reduceAdd, Nat.reduceLeDiff, Nat.reduceEqDiff, true_and, and_true, true_or, or_true, false_or, or_false, ite_true, ite_false, le, my1, e2]
      rw [hn]
      refine hQ M1 (by omega) ⟨fl, by rw [e2, hn]; rfl, ?_, fun j hj i hi => ?_, ?_, h6, fun i hi => ?_⟩ (fun c hc => by rw [fo c (by omega), mset_off (by omega)])
      · show S.2.1 - 1 ≤ 6
        omega
      · have hj : j < S.2.1 - 1 := hj
        show M1 168 (137 * (S.2.1 - 1 - 1 - j) + i) = nI (S.2.2.1 (j + 1) i)
        rw [fo 168 (by decide), mset_off (by decide), show S.2.1 - 1 - 1 - j = S.2.1 - 1 - (j + 1) from by omega]
        exact h4 (j + 1) (by omega) i hi
      · show M1 166 4 = nI S.2.2.2.1
        rw [fo 166 (by decide), mset_ne (by omega)]
        exact h5
      · show M1 169 i = _
        rw [fo 169 (by decide), mset_off (by decide)]
        exact h7 i hi
    | succ d ih =>
      intro j hj M1 fo fl
      have nle : ¬ nI 137 ≤ nI j := nI_ge (by omega) (by decide)
      have e2 : M1 166 2 = nI n := by rw [fo 166 (by decide), mset_eq]
      have es : M1 168 (137 * n + j) = nI (S.2.2.1 0 j) := by
        rw [fo 168 (by decide), mset_off (by decide)]
        have := h4 0 (by omega) j (by omega)
        rw [← this]
        congr 1
        omega
      rw [e68_22]
      simp only [e68_0, e68_1, e68_4, e68_7, e68_9, e68_10, e68_11, e68_11r, e68_12, e68_15, e68_16, e68_17, e68_20, e68_21, e68_23, e68_26, e68_29, e68_30, e68_33, e68_34, e68_35, e68_38, e68_41, e68_42, e68_45, e68_46, e68_47, e68_48, e68_49, e68_50, e68_53, e68_56, e68_57, e68_60, eq_self, kcat_nil, kcat_int, kcat_long, kcat_ref, kNL_int, kNL_ref, kNL_null, Option.toList_some, Option.toList_none, List.nil_append, List.cons_append, Nat.reduceAdd, Nat.reduceLeDiff, Nat.reduceEqDiff, true_and, and_true, true_or, or_true, false_or, or_false, ite_true, ite_false, nle, my1, my2, my3, my7, my8, my12, my13, e2, li137, pk_mul, nI_add, kin_nI (show 137 * n + j < 822 by omega) (by decide), clN (show 137 * n + j < 2 ^ 31 by omega), kin_nI (show j < 137 by omega) (by decide), clN (show j < 2 ^ 31 by omega), es, nI_add1]
      refine ih (j + 1) (by omega) _ (fun c hc => by rw [mset_off hc]; exact fo c hc) (fun i hi => ?_)
      by_cases hij : i = j
      · subst hij; exact mset_eq _ _ _ _
      · rw [mset_ne (by omega)]; exact fl i (by omega)
  simp only [e68_0, e68_1, e68_4, e68_7, e68_9, e68_10, e68_11, e68_11r, e68_12, e68_15, e68_16, e68_17, e68_20, e68_21, e68_23, e68_26, e68_29, e68_30, e68_33, e68_34, e68_35, e68_38, e68_41, e68_42, e68_45, e68_46, e68_47, e68_48, e68_49, e68_50, e68_53, e68_56, e68_57, e68_60, eq_self, kcat_nil, kcat_int, kcat_long, kcat_ref, kNL_int, kNL_ref, kNL_null, Option.toList_some, Option.toList_none, List.nil_append, List.cons_append, Nat.reduceAdd, Nat.reduceLeDiff, Nat.reduceEqDiff, true_and, and_true, true_or, or_true, false_or, or_false, ite_true, ite_false, my1, h2, z0, hL, not_false_eq_true, if_true, em]
  exact loop 137 0 rfl _ (fun _ _ => rfl) (fun i hi => by omega)
