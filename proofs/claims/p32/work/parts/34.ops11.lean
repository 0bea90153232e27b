/-! forecasts -/
theorem XR.off21 {S : KS} {M M' : KMem} (h : XR S M) (h' : Off 21 M M') : XR S M' := by
  obtain ⟨h1, ⟨q, q6, hq, hs⟩, h3, h4, h5, h6, h7⟩ := h
  exact ⟨h1.off (fun c _ _ => h' c (by omega)), ⟨q, q6, by rw [h' 0 (by omega)]; exact hq, fun j hj => (hs j hj).off (fun c _ _ => h' c (by omega))⟩, by rw [h' 0 (by omega)]; exact h3, h4, by rw [h' 162 (by omega)]; exact h5, h6, fun i hi => by rw [h' 163 (by omega)]; exact h7 i hi⟩
def toN (p : NR) (f : Nat) : Nat → Nat → Int32
  | 0, _ => -9
  | d + 1, j => if minV (mN p j) < f then nI (j + 1) else toN p f d (j + 1)
theorem to_or (p : NR) (f : Nat) : ∀ d j, j + d ≤ 500 → toN p f d j = -9 ∨ ∃ m, 1 ≤ m ∧ m ≤ 500 ∧ toN p f d j = nI m := by
  intro d
  induction d with
  | zero => intro j _; exact Or.inl rfl
  | succ d ih =>
    intro j hj
    rw [toN]
    split
    · exact Or.inr ⟨j + 1, by omega, by omega, rfl⟩
    · exact ih (j + 1) (by omega)
theorem x_minutesTo {S : KS} {N f : Nat} {M : KMem} {Q : Option Value → KMem → Prop} (hI : IS S N) (hX : XR S M) (h49 : ¬ S.1 49 = 0) (f1 : 1 ≤ f) (f2 : f ≤ 9999) (hQ : ∀ M', XR S M' → Fx M M' → Q (some (.int (toN S.1 f 500 0))) M') : kE 34 0 [.ref 0, .int (nI f), .null] [] M Q := by
  have n10 : ¬ (1 : Int32) = 0 := by decide
  have z := z49 hI.1
  have c : (1 : Int32) ≤ nI f ∧ nI f ≤ 9999 := rng_in (lo := 1) (hi := 9999) f1 f2 (by decide)
  have hm := m_MInv hI.1.m0
  · have e2 : M 1 10 = nI (S.1 49) := hX.1.f49
    simp only [e34_0, e34_1, e34_2, e34_5, e34_8, e34_11, e34_12, e34_13, e34_14, e34_17, e34_20, e34_23, e34_25, e34_26, e34_27, e34_30, e34_31, e34_34, e34_38, e34_39, e34_40, e34_43, e34_46, e34_47, e34_50, e34_53, e34_54, e34_57, e34_58, e34_59, e34_62, e34_65, e34_67, eq_self, kcat_nil, kcat_int, kcat_long, kcat_ref, kNL_int, kNL_ref, kNL_null, Option.toList_some, Option.toList_none, List.nil_append, List.cons_append, Nat.reduceAdd, Nat.reduceLeDiff, Nat.reduceEqDiff, true_and, and_true, true_or, or_true, false_or, or_false, ite_true, ite_false, tp1, tp2, tp5, tp18, tp19, e2, c, x_isIn, and_self, n10, not_false_eq_true, z, h49, if_false]
    refine x_copyFrom st21 st1 (by decide) hX.1 (nI_01 hI.1.f49) (fun M1 hR1 hO1 => ?_)
    have loop : ∀ d j, j + d = 500 → ∀ M3, StR 21 M3 (nr (mN S.1 j)) → Off 21 M M3 → (∀ M', Off 21 M M' → Q (some (.int (toN S.1 f d j))) M') → kE 34 39 [.ref 0, .int (nI f), .int (nI (j + 1))] [] M3 Q := by
      intro d
      induction d with
      | zero =>
        intro j hj M3 hR3 hO3 hQ'
        have : j = 500 := by omega
        subst this
        have lt : (500 : Int32) < nI (500 + 1) := by decide
        rw [e34_39]
        simp only [e34_0, e34_1, e34_2, e34_5, e34_8, e34_11, e34_12, e34_13, e34_14, e34_17, e34_20, e34_23, e34_25, e34_26, e34_27, e34_30, e34_31, e34_34, e34_37, e34_38, e34_40, e34_43, e34_46, e34_47, e34_50, e34_53, e34_54, e34_57, e34_58, e34_59, e34_62, e34_65, e34_67, eq_self, kcat_nil, kcat_int, kcat_long, kcat_ref, kNL_int, kNL_ref, kNL_null, Option.toList_some, Option.toList_none, List.nil_append, List.cons_append, Nat.reduceAdd, Nat.reduceLeDiff, Nat.reduceEqDiff, true_and, and_true, true_or, or_true, false_or, or_false, ite_true, ite_false, lt]
        exact hQ' _ hO3
      | succ d ih =>
        intro j hj M3 hR3 hO3 hQ'
        have nlt : ¬ (500 : Int32) < nI (j + 1) := by
          rw [show (500 : Int32) = nI 500 from rfl, nI_lt_iff (by decide) (by omega)]
          omega
        have hv := minV_le (hm j)
        have zv : (nI f ≤ nI (minV (mN S.1 j))) ↔ f ≤ minV (mN S.1 j) := nI_le_iff (by omega) (by omega)
        rw [e34_39]
        simp only [e34_0, e34_1, e34_2, e34_5, e34_8, e34_11, e34_12, e34_13, e34_14, e34_17, e34_20, e34_23, e34_25, e34_26, e34_27, e34_30, e34_31, e34_34, e34_37, e34_38, e34_40, e34_43, e34_46, e34_47, e34_50, e34_54, e34_57, e34_58, e34_59, e34_62, e34_65, e34_67, eq_self, kcat_nil, kcat_int, kcat_long, kcat_ref, kNL_int, kNL_ref, kNL_null, Option.toList_some, Option.toList_none, List.nil_append, List.cons_append, Nat.reduceAdd, Nat.reduceLeDiff, Nat.reduceEqDiff, true_and, and_true, true_or, or_true, false_or, or_false, ite_true, ite_false, nlt, if_false, tp2, tp5, tp19]
        refine x_minute st21 hR3 (hm j) (fun M4 hR4 hO4 => ?_)
        simp only [e34_0, e34_1, e34_2, e34_5, e34_8, e34_11, e34_12, e34_13, e34_14, e34_17, e34_20, e34_23, e34_25, e34_26, e34_27, e34_30, e34_31, e34_34, e34_37, e34_38, e34_40, e34_43, e34_46, e34_47, e34_50, e34_53, e34_54, e34_57, e34_58, e34_59, e34_62, e34_65, e34_67, eq_self, kcat_nil, kcat_int, kcat_long, kcat_ref, kNL_int, kNL_ref, kNL_null, Option.toList_some, Option.toList_none, List.nil_append, List.cons_append, Nat.reduceAdd, Nat.reduceLeDiff, Nat.reduceEqDiff, true_and, and_true, true_or, or_true, false_or, or_false, ite_true, ite_false, zv, nI_add1]
        rw [toN] at hQ'
        by_cases hlt : minV (mN S.1 j) < f
        · rw [if_neg (by omega)]
          rw [if_pos hlt] at hQ'
          exact hQ' _ (hO3.trans hO4)
        · rw [if_pos (by omega)]
          rw [if_neg hlt] at hQ'
          exact ih (j + 1) (by omega) M4 hR4 (hO3.trans hO4) hQ'
    simp only [e34_0, e34_1, e34_2, e34_5, e34_8, e34_11, e34_12, e34_13, e34_14, e34_17, e34_20, e34_23, e34_25, e34_26, e34_27, e34_30, e34_31, e34_34, e34_37, e34_38, e34_40, e34_43, e34_46, e34_47, e34_50, e34_53, e34_54, e34_57, e34_58, e34_59, e34_62, e34_65, e34_67, eq_self, kcat_nil, kcat_int, kcat_long, kcat_ref, kNL_int, kNL_ref, kNL_null, Option.toList_some, Option.toList_none, List.nil_append, List.cons_append, Nat.reduceAdd, Nat.reduceLeDiff, Nat.reduceEqDiff, true_and, and_true, true_or, or_true, false_or, or_false, ite_true, ite_false]
    exact loop 500 0 (by omega) M1 hR1 hO1 (fun M' h => hQ M' (hX.off21 h) (h.fx (by decide)))
