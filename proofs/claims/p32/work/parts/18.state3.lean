/-! splitting; the stack's changes -/
def dvN (p : NR) (b : Bool) (j : Nat) : NR := fun i => if i < 10 then (if i < j then (if b = true then lftN p i else p i - lftN p i) else p i) else if i < 20 then (if i - 10 < j then p i + (if b = true then p (i - 10) - lftN p (i - 10) else lftN p (i - 10)) else p i) else p i
theorem dvN_0 (p : NR) (b : Bool) (i : Nat) : dvN p b 0 i = p i := by
  unfold dvN
  (repeat' split) <;> first | rfl | (exfalso; omega)
theorem dvN_10 (p : NR) (b : Bool) (i : Nat) : dvN p b 10 i = divN p b i := by
  unfold dvN divN
  by_cases h1 : i < 10
  · rw [if_pos h1, if_pos h1, if_pos h1]
  · rw [if_neg h1, if_neg h1]
    by_cases h2 : i < 20
    · rw [if_pos h2, if_pos h2, if_pos (by omega)]
    · rw [if_neg h2, if_neg h2]
theorem dvN_s {p : NR} {b : Bool} {j : Nat} (hj : j < 10) (i : Nat) : nu (nu (dvN p b j) j (if b = true then lftN p j else p j - lftN p j)) (10 + j) (p (10 + j) + (if b = true then p j - lftN p j else lftN p j)) i = dvN p b (j + 1) i := by
  unfold nu
  by_cases h1 : i = 10 + j
  · rw [if_pos h1]
    unfold dvN
    rw [if_neg (show ¬ i < 10 by omega), if_pos (show i < 20 by omega), if_pos (show i - 10 < j + 1 by omega), show i - 10 = j from by omega, h1]
  · rw [if_neg h1]
    by_cases h2 : i = j
    · rw [if_pos h2]
      unfold dvN
      rw [if_pos (show i < 10 by omega), if_pos (show i < j + 1 by omega), h2]
    · rw [if_neg h2]
      unfold dvN
      by_cases h3 : i < 10
      · rw [if_pos h3, if_pos h3]
        by_cases h4 : i < j
        · rw [if_pos h4, if_pos (show i < j + 1 by omega)]
        · rw [if_neg h4, if_neg (show ¬ i < j + 1 by omega)]
      · rw [if_neg h3, if_neg h3]
        by_cases h5 : i < 20
        · rw [if_pos h5, if_pos h5]
          by_cases h4 : i - 10 < j
          · rw [if_pos h4, if_pos (show i - 10 < j + 1 by omega)]
          · rw [if_neg h4, if_neg (show ¬ i - 10 < j + 1 by omega)]
        · rw [if_neg h5, if_neg h5]
def kflag (c : Prop) [Decidable c] : Int32 := if c then 1 else 0
theorem x_halveSample {o : Nat} {b : Bool} {M : KMem} {p : NR} {Q : Option Value → KMem → Prop} (ho : isSt o) (hR : StR o M (nr p)) (hs : ∀ k, k < 10 → p k ≤ 9999) (hQ : ∀ M', StR o M' (nr (divN p b)) → Off o M M' → Q none M') :
    kE 3 0 [.ref o, .int (if b = true then 1 else 0), .null, .null, .null, .null] [] M Q := by
  have loop : ∀ d j, j + d = 10 → ∀ M1 v4 v5, kNL v4 = true → kNL v5 = true → StR o M1 (nr (dvN p b j)) → Off o M M1 → kE 3 4 [.ref o, .int (if b = true then 1 else 0), .int (if oddN p j % 2 = 0 then 1 else 0), .int (nI j), v4, v5] [] M1 Q := by
    intro d
    induction d with
    | zero =>
      intro j hj M1 v4 v5 h4 h5 h hO
      have : j = 10 := by omega
      subst this
      have le : (10 : Int32) ≤ nI 10 := by decide
      rw [e3_4]
      simp only [e3_0, e3_1, e3_2, e3_3, e3_5, e3_7, e3_10, e3_11, e3_14, e3_15, e3_16, e3_17, e3_18, e3_20, e3_22, e3_24, e3_25, e3_28, e3_29, e3_30, e3_31, e3_32, e3_35, e3_37, e3_38, e3_41, e3_42, e3_45, e3_46, e3_47, e3_49, e3_51, e3_52, e3_55, e3_56, e3_59, e3_60, e3_61, e3_63, e3_64, e3_67, e3_68, e3_71, e3_72, e3_73, e3_74, e3_77, e3_78, e3_79, e3_82, e3_84, e3_87, e3_89, e3_90, e3_91, e3_94, e3_95, e3_96, e3_97, e3_98, e3_101, e3_103, e3_106, e3_108, e3_109, e3_110, e3_113, e3_116, eq_self, kcat_nil, kcat_int, kcat_long, kcat_ref, kNL_int, kNL_ref, kNL_null, Option.toList_some, Option.toList_none, List.nil_append, List.cons_append, Nat.reduceAdd, Nat.reduceLeDiff, Nat.reduceEqDiff, true_and, and_true, true_or, or_true, false_or, or_false, ite_true, ite_false, le]
      exact hQ M1 (h.congr (fun i _ => congrArg nI (dvN_10 p b i).symm)) hO
    | succ d ih =>
      intro j hj M1 v4 v5 h4 h5 h hO
      have hj10 : j < 10 := by omega
      have nle : ¬ (10 : Int32) ≤ nI j := by rw [show (10 : Int32) = nI 10 from rfl]; exact nI_ge (by omega) (by decide)
      have em : M1 (o + 1) j = nI (p j) := by
        rw [h.smp hj10]
        unfold nr dvN
        rw [if_pos hj10, if_neg (by omega)]
      have er : M1 (o + 2) j = nI (p (10 + j)) := by
        rw [h.res hj10]
        unfold nr dvN
        rw [if_neg (by omega), if_pos (by omega), if_neg (by omega)]
      have hm := hs j hj10
      have ed : nI (p j) / 2 = nI (p j / 2) := by rw [show (2 : Int32) = nI 2 from rfl, pk_div (by omega) (by decide) (by decide)]
      have e2 : k_irem (nI (p j)) 2 = nI (p j % 2) := by unfold k_irem; rw [show (2 : Int32) = nI 2 from rfl, pk_rem (by omega) (by decide) (by decide)]
      have n2 : ¬ (2 : Int32) = 0 := by decide
      have n10 : ¬ (1 : Int32) = 0 := by decide
      have n12 : o + 1 ≠ o + 2 := by omega
      have n21 : o + 2 ≠ o + 1 := by omega
      have key : ∀ (L R : Nat) (f : Int32), L = lftN p j → R = p j - lftN p j → f = (if oddN p (j + 1) % 2 = 0 then 1 else 0) → ∀ st5 : List Value, kE 3 4 [.ref o, .int (if b = true then 1 else 0), .int f, .int (nI (j + 1)), .int (nI L), .int (nI R)] [] (mset (mset M1 (o + 1) j (if b = true then nI L else nI R)) (o + 2) j (nI (p (10 + j)) + (if b = true then nI R else nI L))) Q := by
        intro L R f hL hRr hf _
        subst hL hRr hf
        refine ih (j + 1) (by omega) _ _ _ rfl rfl ?_ ((hO.mset (by omega) (by omega)).mset (by omega) (by omega))
        have s1 := h.setSmp hj10 (nI (if b = true then lftN p j else p j - lftN p j))
        have s2 := s1.setRes hj10 (nI (p (10 + j) + (if b = true then p j - lftN p j else lftN p j)))
        rw [nr_upd, nr_upd, nr_congr (dvN_s hj10)] at s2
        have q1 : (if b = true then nI (lftN p j) else nI (p j - lftN p j)) = nI (if b = true then lftN p j else p j - lftN p j) := by split <;> rfl
        have q2 : nI (p (10 + j)) + (if b = true then nI (p j - lftN p j) else nI (lftN p j)) = nI (p (10 + j) + (if b = true then p j - lftN p j else lftN p j)) := by rw [← nI_add]; split <;> rfl
        rw [q1, q2]
        exact s2
      have hodd : oddN p (j + 1) = oddN p j + p j % 2 := rfl
      rw [e3_4]
      rcases Nat.mod_two_eq_zero_or_one (p j) with hp | hp
      · have l1 : lftN p j = p j / 2 := by unfold lftN; rw [if_neg (by omega)]; omega
        have z : nI (p j % 2) = 0 := by rw [hp]; rfl
        have := key (p j / 2) (p j / 2) (if oddN p j % 2 = 0 then 1 else 0) l1.symm (by omega) (by rw [hodd, hp, Nat.add_zero]) []
        cases b
        · simp only [e3_0, e3_1, e3_2, e3_3, e3_5, e3_7, e3_10, e3_11, e3_14, e3_15, e3_16, e3_17, e3_18, e3_20, e3_22, e3_24, e3_25, e3_28, e3_29, e3_30, e3_31, e3_32, e3_35, e3_37, e3_38, e3_41, e3_42, e3_45, e3_46, e3_47, e3_49, e3_51, e3_52, e3_55, e3_56, e3_59, e3_60, e3_61, e3_63, e3_64, e3_67, e3_68, e3_71, e3_72, e3_73, e3_74, e3_77, e3_78, e3_79, e3_82, e3_84, e3_87, e3_89, e3_90, e3_91, e3_94, e3_95, e3_96, e3_97, e3_98, e3_101, e3_103, e3_106, e3_108, e3_109, e3_110, e3_113, e3_116, eq_self, kcat_nil, kcat_int, kcat_long, kcat_ref, kNL_int, kNL_ref, kNL_null, Option.toList_some, Option.toList_none, List.nil_append, List.cons_append, Nat.reduceAdd, Nat.reduceLeDiff, Nat.reduceEqDiff, true_and, and_true, true_or, or_true, false_or, or_false, ite_true, ite_false, nle, if_false, kd_o ho, rf_o0 ho, rf_o1 ho, kd_o1 ho, kd_o2 ho, ln_o1 ho, ln_o2 ho, kin_nI hj10 (by decide), nI_clamp (show j < 2 ^ 31 by omega), em, er, ed, e2, n2, not_false_eq_true, z, nI_add1, mset_off n21, Bool.false_eq_true]
          simpa only [Bool.false_eq_true, if_false] using this
        · simp only [e3_0, e3_1, e3_2, e3_3, e3_5, e3_7, e3_10, e3_11, e3_14, e3_15, e3_16, e3_17, e3_18, e3_20, e3_22, e3_24, e3_25, e3_28, e3_29, e3_30, e3_31, e3_32, e3_35, e3_37, e3_38, e3_41, e3_42, e3_45, e3_46, e3_47, e3_49, e3_51, e3_52, e3_55, e3_56, e3_59, e3_60, e3_61, e3_63, e3_64, e3_67, e3_68, e3_71, e3_72, e3_73, e3_74, e3_77, e3_78, e3_79, e3_82, e3_84, e3_87, e3_89, e3_90, e3_91, e3_94, e3_95, e3_96, e3_97, e3_98, e3_101, e3_103, e3_106, e3_108, e3_109, e3_110, e3_113, e3_116, eq_self, kcat_nil, kcat_int, kcat_long, kcat_ref, kNL_int, kNL_ref, kNL_null, Option.toList_some, Option.toList_none, List.nil_append, List.cons_append, Nat.reduceAdd, Nat.reduceLeDiff, Nat.reduceEqDiff, true_and, and_true, true_or, or_true, false_or, or_false, ite_true, ite_false, nle, if_false, kd_o ho, rf_o0 ho, rf_o1 ho, kd_o1 ho, kd_o2 ho, ln_o1 ho, ln_o2 ho, kin_nI hj10 (by decide), nI_clamp (show j < 2 ^ 31 by omega), em, er, ed, e2, n2, not_false_eq_true, z, nI_add1, mset_off n21, n10, if_true]
          simpa only [if_true] using this
      · have z : nI (p j % 2) = 1 := by rw [hp]; rfl
        rcases Nat.mod_two_eq_zero_or_one (oddN p j) with hq | hq
        · have l1 : lftN p j = p j / 2 + 1 := by unfold lftN; rw [if_pos ⟨hp, hq⟩]
          have := key (p j / 2 + 1) (p j / 2) 0 l1.symm (by omega) (by rw [if_neg (by omega)]) []
          cases b
          · simp only [e3_0, e3_1, e3_2, e3_3, e3_5, e3_7, e3_10, e3_11, e3_14, e3_15, e3_16, e3_17, e3_18, e3_20, e3_22, e3_24, e3_25, e3_28, e3_29, e3_30, e3_31, e3_32, e3_35, e3_37, e3_38, e3_41, e3_42, e3_45, e3_46, e3_47, e3_49, e3_51, e3_52, e3_55, e3_56, e3_59, e3_60, e3_61, e3_63, e3_64, e3_67, e3_68, e3_71, e3_72, e3_73, e3_74, e3_77, e3_78, e3_79, e3_82, e3_84, e3_87, e3_89, e3_90, e3_91, e3_94, e3_95, e3_96, e3_97, e3_98, e3_101, e3_103, e3_106, e3_108, e3_109, e3_110, e3_113, e3_116, eq_self, kcat_nil, kcat_int, kcat_long, kcat_ref, kNL_int, kNL_ref, kNL_null, Option.toList_some, Option.toList_none, List.nil_append, List.cons_append, Nat.reduceAdd, Nat.reduceLeDiff, Nat.reduceEqDiff, true_and, and_true, true_or, or_true, false_or, or_false, ite_true, ite_false, nle, if_false, kd_o ho, rf_o0 ho, rf_o1 ho, kd_o1 ho, kd_o2 ho, ln_o1 ho, ln_o2 ho, kin_nI hj10 (by decide), nI_clamp (show j < 2 ^ 31 by omega), em, er, ed, e2, n2, not_false_eq_true, z, nI_add1, mset_off n21, Bool.false_eq_true, n10, hq, if_true, Int32.add_zero, not_true_eq_false]
            simpa only [Bool.false_eq_true, if_false] using this
          · simp only [e3_0, e3_1, e3_2, e3_3, e3_5, e3_7, e3_10, e3_11, e3_14, e3_15, e3_16, e3_17, e3_18, e3_20, e3_22, e3_24, e3_25, e3_28, e3_29, e3_30, e3_31, e3_32, e3_35, e3_37, e3_38, e3_41, e3_42, e3_45, e3_46, e3_47, e3_49, e3_51, e3_52, e3_55, e3_56, e3_59, e3_60, e3_61, e3_63, e3_64, e3_67, e3_68, e3_71, e3_72, e3_73, e3_74, e3_77, e3_78, e3_79, e3_82, e3_84, e3_87, e3_89, e3_90, e3_91, e3_94, e3_95, e3_96, e3_97, e3_98, e3_101, e3_103, e3_106, e3_108, e3_109, e3_110, e3_113, e3_116, eq_self, kcat_nil, kcat_int, kcat_long, kcat_ref, kNL_int, kNL_ref, kNL_null, Option.toList_some, Option.toList_none, List.nil_append, List.cons_append, Nat.reduceAdd, Nat.reduceLeDiff, Nat.reduceEqDiff, true_and, and_true, true_or, or_true, false_or, or_false, ite_true, ite_false, nle, if_false, kd_o ho, rf_o0 ho, rf_o1 ho, kd_o1 ho, kd_o2 ho, ln_o1 ho, ln_o2 ho, kin_nI hj10 (by decide), nI_clamp (show j < 2 ^ 31 by omega), em, er, ed, e2, n2, not_false_eq_true, z, nI_add1, mset_off n21, n10, hq, if_true, Int32.add_zero, not_true_eq_false]
            simpa only [if_true] using this
        · have l1 : lftN p j = p j / 2 := by unfold lftN; rw [if_neg (by omega)]; omega
          have hq' : ¬ oddN p j % 2 = 0 := by omega
          have := key (p j / 2) (p j / 2 + 1) 1 l1.symm (by omega) (by rw [if_pos (by omega)]) []
          cases b
          · simp only [e3_0, e3_1, e3_2, e3_3, e3_5, e3_7, e3_10, e3_11, e3_14, e3_15, e3_16, e3_17, e3_18, e3_20, e3_22, e3_24, e3_25, e3_28, e3_29, e3_30, e3_31, e3_32, e3_35, e3_37, e3_38, e3_41, e3_42, e3_45, e3_46, e3_47, e3_49, e3_51, e3_52, e3_55, e3_56, e3_59, e3_60, e3_61, e3_63, e3_64, e3_67, e3_68, e3_71, e3_72, e3_73, e3_74, e3_77, e3_78, e3_79, e3_82, e3_84, e3_87, e3_89, e3_90, e3_91, e3_94, e3_95, e3_96, e3_97, e3_98, e3_101, e3_103, e3_106, e3_108, e3_109, e3_110, e3_113, e3_116, eq_self, kcat_nil, kcat_int, kcat_long, kcat_ref, kNL_int, kNL_ref, kNL_null, Option.toList_some, Option.toList_none, List.nil_append, List.cons_append, Nat.reduceAdd, Nat.reduceLeDiff, Nat.reduceEqDiff, true_and, and_true, true_or, or_true, false_or, or_false, ite_true, ite_false, nle, if_false, kd_o ho, rf_o0 ho, rf_o1 ho, kd_o1 ho, kd_o2 ho, ln_o1 ho, ln_o2 ho, kin_nI hj10 (by decide), nI_clamp (show j < 2 ^ 31 by omega), em, er, ed, e2, n2, not_false_eq_true, z, nI_add1, mset_off n21, Bool.false_eq_true, n10, hq', if_false, Int32.add_zero, not_true_eq_false]
            simpa only [Bool.false_eq_true, if_false] using this
          · simp only [e3_0, e3_1, e3_2, e3_3, e3_5, e3_7, e3_10, e3_11, e3_14, e3_15, e3_16, e3_17, e3_18, e3_20, e3_22, e3_24, e3_25, e3_28, e3_29, e3_30, e3_31, e3_32, e3_35, e3_37, e3_38, e3_41, e3_42, e3_45, e3_46, e3_47, e3_49, e3_51, e3_52, e3_55, e3_56, e3_59, e3_60, e3_61, e3_63, e3_64, e3_67, e3_68, e3_71, e3_72, e3_73, e3_74, e3_77, e3_78, e3_79, e3_82, e3_84, e3_87, e3_89, e3_90, e3_91, e3_94, e3_95, e3_96, e3_97, e3_98, e3_101, e3_103, e3_106, e3_108, e3_109, e3_110, e3_113, e3_116, eq_self, kcat_nil, kcat_int, kcat_long, kcat_ref, kNL_int, kNL_ref, kNL_null, Option.toList_some, Option.toList_none, List.nil_append, List.cons_append, Nat.reduceAdd, Nat.reduceLeDiff, Nat.reduceEqDiff, true_and, and_true, true_or, or_true, false_or, or_false, ite_true, ite_false, nle, if_false, kd_o ho, rf_o0 ho, rf_o1 ho, kd_o1 ho, kd_o2 ho, ln_o1 ho, ln_o2 ho, kin_nI hj10 (by decide), nI_clamp (show j < 2 ^ 31 by omega), em, er, ed, e2, n2, not_false_eq_true, z, nI_add1, mset_off n21, n10, hq', if_true, if_false, Int32.add_zero, not_true_eq_false]
            simpa only [if_true] using this
  simp only [e3_0, e3_1, e3_2, e3_3, e3_5, e3_7, e3_10, e3_11, e3_14, e3_15, e3_16, e3_17, e3_18, e3_20, e3_22, e3_24, e3_25, e3_28, e3_29, e3_30, e3_31, e3_32, e3_35, e3_37, e3_38, e3_41, e3_42, e3_45, e3_46, e3_47, e3_49, e3_51, e3_52, e3_55, e3_56, e3_59, e3_60, e3_61, e3_63, e3_64, e3_67, e3_68, e3_71, e3_72, e3_73, e3_74, e3_77, e3_78, e3_79, e3_82, e3_84, e3_87, e3_89, e3_90, e3_91, e3_94, e3_95, e3_96, e3_97, e3_98, e3_101, e3_103, e3_106, e3_108, e3_109, e3_110, e3_113, e3_116, eq_self, kcat_nil, kcat_int, kcat_long, kcat_ref, kNL_int, kNL_ref, kNL_null, Option.toList_some, Option.toList_none, List.nil_append, List.cons_append, Nat.reduceAdd, Nat.reduceLeDiff, Nat.reduceEqDiff, true_and, and_true, true_or, or_true, false_or, or_false, ite_true, ite_false]
  exact loop 10 0 rfl M _ _ rfl rfl (hR.congr (fun i _ => congrArg nI (dvN_0 p b i))) Off.rfl'
