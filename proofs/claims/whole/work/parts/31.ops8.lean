/-! taking a sieve out, the charge -/
def tkN (q : NR) (k j : Nat) : NR := fun i => if i = 24 then q 24 - 1 else if 25 ≤ i ∧ i < 31 then (if k ≤ i - 25 ∧ i - 25 < j then q (i + 1) else q i) else q i
theorem tk_at {q : NR} {k j t : Nat} (h : t < 6) (hk : j ≤ t) : tkN q k j (25 + t) = q (25 + t) := by
  unfold tkN
  rw [if_neg (by omega), if_pos (by omega), if_neg (by omega)]
theorem tk_set {q : NR} {k j : Nat} (h : j < 6) (hk : k ≤ j) (i : Nat) : tkN q k (j + 1) i = nu (tkN q k j) (25 + j) (q (25 + (j + 1))) i := by
  unfold nu
  by_cases h2 : i = 25 + j
  · rw [if_pos h2]
    unfold tkN
    rw [if_neg (by omega), if_pos (by omega), if_pos (by omega)]
    exact congrArg q (by omega)
  · rw [if_neg h2]
    unfold tkN
    by_cases h0 : i = 24
    · rw [if_pos h0, if_pos h0]
    · rw [if_neg h0, if_neg h0]
      by_cases h1 : 25 ≤ i ∧ i < 31
      · rw [if_pos h1, if_pos h1]
        by_cases h3 : k ≤ i - 25 ∧ i - 25 < j
        · rw [if_pos h3, if_pos (by omega)]
        · rw [if_neg h3, if_neg (by omega)]
      · rw [if_neg h1, if_neg h1]
theorem tak_Inv {p : NR} {k N : Nat} (h : Inv p N) (hk : k < p 24) : Inv (takN (endsN p) k) N := by
  have hn := h.f24
  have e24 : endsN p 24 = p 24 := ends_lo (by decide)
  have i24 : takN (endsN p) k 24 = p 24 - 1 := by unfold takN; rw [if_pos rfl, e24]
  have iat : ∀ t, t < 6 → takN (endsN p) k (25 + t) = if k ≤ t ∧ t < p 24 - 1 then p (25 + (t + 1)) else p (25 + t) := fun t ht => by
    unfold takN
    rw [if_neg (by omega), if_pos (by omega), e24, show 25 + t - 25 = t from by omega, ends_lo (by omega), ends_lo (by omega)]
    rfl
  refine h.stk (fun i hi hk => ?_) (by rw [i24]; omega) (fun t ht => ?_) (fun t ht => ?_)
  · unfold takN
    rw [if_neg (by omega), if_neg (by omega)]
  · rw [i24] at ht
    rw [iat t (by omega)]
    split
    · exact h.ap1 _ (by omega)
    · exact h.ap1 _ (by omega)
  · rw [iat t ht]
    split
    · exact h.ap9 _ (by omega)
    · exact h.ap9 _ ht
theorem op_removeSieve (x : Int32) : OpOK 39 88 [.int x] := by
  intro S N hN hI
  have n10 : ¬ (1 : Int32) = 0 := by decide
  have hn := hI.1.f24
  rcases rng x 1 9 (by decide) (by decide) with h | ⟨a, a1, a9, rfl⟩
  · have h' : ¬ (1 ≤ x ∧ x ≤ 9) := h
    refine ⟨-1, S, hI.mono, fun M Q hX hQ => ?_, fun M Q hY hQ => ?_⟩
    · show kE 39 0 [.ref 0, .int x, .null] [] M Q
      simp only [e39_0, e39_1, e39_2, e39_4, e39_7, e39_10, e39_11, e39_12, e39_13, e39_16, e39_17, e39_20, e39_21, e39_22, e39_24, e39_27, e39_29, e39_30, e39_31, e39_34, e39_35, e39_38, e39_41, e39_42, e39_45, e39_46, e39_49, e39_50, e39_53, e39_56, eq_self, kcat_nil, kcat_int, kcat_long, kcat_ref, kNL_int, kNL_ref, kNL_null, Option.toList_some, Option.toList_none, List.nil_append, List.cons_append, Nat.reduceAdd, Nat.reduceLeDiff, Nat.reduceEqDiff, true_and, and_true, true_or, or_true, false_or, or_false, ite_true, ite_false, x_isIn, h', if_false, not_true_eq_false]
      exact hQ M hX Fx.rfl'
    · show kE 88 0 [.ref 166, .int x, .null, .null] [] M Q
      simp only [e88_0, e88_1, e88_2, e88_4, e88_7, e88_10, e88_11, e88_12, e88_13, e88_14, e88_17, e88_18, e88_19, e88_21, e88_24, e88_26, e88_27, e88_28, e88_31, e88_32, e88_35, e88_36, e88_39, e88_41, e88_42, e88_43, e88_44, e88_45, e88_46, e88_47, e88_49, e88_50, e88_53, e88_55, e88_56, e88_59, e88_60, e88_63, e88_65, e88_66, e88_67, e88_68, e88_71, e88_73, e88_74, e88_75, e88_76, e88_77, e88_78, e88_79, e88_82, e88_85, e88_86, e88_89, e88_91, e88_92, eq_self, kcat_nil, kcat_int, kcat_long, kcat_ref, kNL_int, kNL_ref, kNL_null, Option.toList_some, Option.toList_none, List.nil_append, List.cons_append, Nat.reduceAdd, Nat.reduceLeDiff, Nat.reduceEqDiff, true_and, and_true, true_or, or_true, false_or, or_false, ite_true, ite_false, y_in, h', if_false, not_true_eq_false]
      exact hQ M hY Fy.rfl'
  have c : (1 : Int32) ≤ nI a ∧ nI a ≤ 9 := rng_in (lo := 1) (hi := 9) a1 a9 (by decide)
  have zf := find_m9 (p := S.1) (a := a) hn
  by_cases hf : findN S.1 a (S.1 24) 0 = 99
  · refine ⟨-2, S, hI.mono, fun M Q hX hQ => ?_, fun M Q hY hQ => ?_⟩
    · show kE 39 0 [.ref 0, .int (nI a), .null] [] M Q
      simp only [e39_0, e39_1, e39_2, e39_4, e39_7, e39_10, e39_11, e39_12, e39_13, e39_16, e39_17, e39_20, e39_21, e39_22, e39_24, e39_27, e39_29, e39_30, e39_31, e39_34, e39_35, e39_38, e39_41, e39_42, e39_45, e39_46, e39_49, e39_50, e39_53, e39_56, eq_self, kcat_nil, kcat_int, kcat_long, kcat_ref, kNL_int, kNL_ref, kNL_null, Option.toList_some, Option.toList_none, List.nil_append, List.cons_append, Nat.reduceAdd, Nat.reduceLeDiff, Nat.reduceEqDiff, true_and, and_true, true_or, or_true, false_or, or_false, ite_true, ite_false, x_isIn, c, and_self, n10, not_false_eq_true, tp1, tp5, tp18, x_findSieve st1 hX.1 hn a9 hI.1.ap9, zf, hf, not_true_eq_false, if_false]
      exact hQ M hX Fx.rfl'
    · show kE 88 0 [.ref 166, .int (nI a), .null, .null] [] M Q
      simp only [e88_0, e88_1, e88_2, e88_4, e88_7, e88_10, e88_11, e88_12, e88_13, e88_14, e88_17, e88_18, e88_19, e88_21, e88_24, e88_26, e88_27, e88_28, e88_31, e88_32, e88_35, e88_36, e88_39, e88_41, e88_42, e88_43, e88_44, e88_45, e88_46, e88_47, e88_49, e88_50, e88_53, e88_55, e88_56, e88_59, e88_60, e88_63, e88_65, e88_66, e88_67, e88_68, e88_71, e88_73, e88_74, e88_75, e88_76, e88_77, e88_78, e88_79, e88_82, e88_85, e88_86, e88_89, e88_91, e88_92, eq_self, kcat_nil, kcat_int, kcat_long, kcat_ref, kNL_int, kNL_ref, kNL_null, Option.toList_some, Option.toList_none, List.nil_append, List.cons_append, Nat.reduceAdd, Nat.reduceLeDiff, Nat.reduceEqDiff, true_and, and_true, true_or, or_true, false_or, or_false, ite_true, ite_false, y_in, c, and_self, n10, not_false_eq_true, my1, y_trayWith hY.1 hn a9 hI.1.ap9, zf, hf, not_true_eq_false, if_false]
      exact hQ M hY Fy.rfl'
  obtain ⟨k, hkf⟩ : ∃ k, k = findN S.1 a (S.1 24) 0 := ⟨_, rfl⟩
  have hk : k < S.1 24 := by have := (find_or S.1 a (S.1 24) 0).resolve_left hf; omega
  rw [← hkf] at zf hf
  have zn : ¬ nI k = -9 := fun z => hf (zf.mp (by rw [if_neg hf]; exact z))
  obtain ⟨q, hq⟩ : ∃ q, q = endsN S.1 := ⟨_, rfl⟩
  have q24 : q 24 = S.1 24 := by rw [hq]; exact ends_lo (by decide)
  have t24 : takN q k 24 = q 24 - 1 := if_pos rfl
  refine ⟨nI (q 24 - 1), (takN q k, (sav S).2), hI.sav.cur (by rw [hq]; exact (tak_Inv hI.1 hk).mono), fun M Q hX hQ => ?_, fun M Q hY hQ => ?_⟩
  · show kE 39 0 [.ref 0, .int (nI a), .null] [] M Q
    have fs := fun Q' => x_findSieve (Q := Q') st1 hX.1 hn a9 hI.1.ap9
    rw [← hkf] at fs
    simp only [e39_0, e39_1, e39_2, e39_4, e39_7, e39_10, e39_11, e39_12, e39_13, e39_16, e39_17, e39_20, e39_21, e39_22, e39_24, e39_27, e39_29, e39_30, e39_31, e39_35, e39_38, e39_41, e39_42, e39_45, e39_46, e39_49, e39_50, e39_53, e39_56, eq_self, kcat_nil, kcat_int, kcat_long, kcat_ref, kNL_int, kNL_ref, kNL_null, Option.toList_some, Option.toList_none, List.nil_append, List.cons_append, Nat.reduceAdd, Nat.reduceLeDiff, Nat.reduceEqDiff, true_and, and_true, true_or, or_true, false_or, or_false, ite_true, ite_false, x_isIn, c, and_self, n10, not_false_eq_true, tp1, tp5, tp18, fs, hf, if_false, zn]
    refine x_saveState hX hI.1.f49 (fun M1 hX1 hF _ _ _ => ?_)
    simp only [e39_0, e39_1, e39_2, e39_4, e39_7, e39_10, e39_11, e39_12, e39_13, e39_16, e39_17, e39_20, e39_21, e39_22, e39_24, e39_27, e39_29, e39_30, e39_31, e39_34, e39_35, e39_38, e39_42, e39_45, e39_46, e39_49, e39_50, e39_53, e39_56, eq_self, kcat_nil, kcat_int, kcat_long, kcat_ref, kNL_int, kNL_ref, kNL_null, Option.toList_some, Option.toList_none, List.nil_append, List.cons_append, Nat.reduceAdd, Nat.reduceLeDiff, Nat.reduceEqDiff, true_and, and_true, true_or, or_true, false_or, or_false, ite_true, ite_false, tp1, tp5, tp18]
    refine x_endAnalysis st1 hX1.1 (fun M2 hR2 hO2 => ?_)
    have hR2' : StR 1 M2 (nr q) := by rw [hq]; exact hR2
    simp only [e39_0, e39_1, e39_2, e39_4, e39_7, e39_10, e39_11, e39_12, e39_13, e39_16, e39_17, e39_20, e39_21, e39_22, e39_24, e39_27, e39_29, e39_30, e39_31, e39_34, e39_35, e39_38, e39_41, e39_42, e39_45, e39_46, e39_50, e39_53, e39_56, eq_self, kcat_nil, kcat_int, kcat_long, kcat_ref, kNL_int, kNL_ref, kNL_null, Option.toList_some, Option.toList_none, List.nil_append, List.cons_append, Nat.reduceAdd, Nat.reduceLeDiff, Nat.reduceEqDiff, true_and, and_true, true_or, or_true, false_or, or_false, ite_true, ite_false, tp1, tp5, tp18]
    refine x_takeSieve st1 hR2' (by omega) (by omega) (fun M3 hR3 hO3 => ?_)
    have e1 : M3 1 5 = nI (q 24 - 1) := by
      have : M3 1 5 = nI (takN q k 24) := hR3.f24
      rw [this, t24]
    simp only [e39_0, e39_1, e39_2, e39_4, e39_7, e39_10, e39_11, e39_12, e39_13, e39_16, e39_17, e39_20, e39_21, e39_22, e39_24, e39_27, e39_29, e39_30, e39_31, e39_34, e39_35, e39_38, e39_41, e39_42, e39_45, e39_46, e39_49, e39_50, e39_53, e39_56, eq_self, kcat_nil, kcat_int, kcat_long, kcat_ref, kNL_int, kNL_ref, kNL_null, Option.toList_some, Option.toList_none, List.nil_append, List.cons_append, Nat.reduceAdd, Nat.reduceLeDiff, Nat.reduceEqDiff, true_and, and_true, true_or, or_true, false_or, or_false, ite_true, ite_false, tp1, tp5, tp18, e1]
    exact hQ _ (hX1.cur (hO2.trans hO3) hR3) (fx1 hF (hO2.trans hO3))
  · show kE 88 0 [.ref 166, .int (nI a), .null, .null] [] M Q
    have fs := fun Q' => y_trayWith (Q := Q') hY.1 hn a9 hI.1.ap9
    rw [← hkf] at fs
    simp only [e88_0, e88_1, e88_2, e88_4, e88_7, e88_10, e88_11, e88_12, e88_13, e88_14, e88_17, e88_18, e88_19, e88_21, e88_24, e88_26, e88_27, e88_28, e88_32, e88_35, e88_36, e88_39, e88_41, e88_42, e88_43, e88_44, e88_45, e88_46, e88_47, e88_49, e88_50, e88_53, e88_55, e88_56, e88_59, e88_60, e88_63, e88_65, e88_66, e88_67, e88_68, e88_71, e88_73, e88_74, e88_75, e88_76, e88_77, e88_78, e88_79, e88_82, e88_85, e88_86, e88_89, e88_91, e88_92, eq_self, kcat_nil, kcat_int, kcat_long, kcat_ref, kNL_int, kNL_ref, kNL_null, Option.toList_some, Option.toList_none, List.nil_append, List.cons_append, Nat.reduceAdd, Nat.reduceLeDiff, Nat.reduceEqDiff, true_and, and_true, true_or, or_true, false_or, or_false, ite_true, ite_false, y_in, c, and_self, n10, not_false_eq_true, my1, fs, hf, if_false, zn]
    refine y_notes hY (fun M1 hY1 hF _ _ _ => ?_)
    simp only [e88_0, e88_1, e88_2, e88_4, e88_7, e88_10, e88_11, e88_12, e88_13, e88_14, e88_17, e88_18, e88_19, e88_21, e88_24, e88_26, e88_27, e88_28, e88_31, e88_32, e88_36, e88_39, e88_41, e88_42, e88_43, e88_44, e88_45, e88_46, e88_47, e88_49, e88_50, e88_53, e88_55, e88_56, e88_59, e88_60, e88_63, e88_65, e88_66, e88_67, e88_68, e88_71, e88_73, e88_74, e88_75, e88_76, e88_77, e88_78, e88_79, e88_82, e88_85, e88_86, e88_89, e88_91, e88_92, eq_self, kcat_nil, kcat_int, kcat_long, kcat_ref, kNL_int, kNL_ref, kNL_null, Option.toList_some, Option.toList_none, List.nil_append, List.cons_append, Nat.reduceAdd, Nat.reduceLeDiff, Nat.reduceEqDiff, true_and, and_true, true_or, or_true, false_or, or_false, ite_true, ite_false, my1]
    refine y_ends hY1.1 (fun M2 hR2 hO2 => ?_)
    have hR2' : RowM M2 q := by rw [hq]; exact hR2
    have r24 : M2 167 24 = nI (q 24) := hR2' 24 (by decide)
    have m1 : nI (q 24) - 1 = nI (q 24 - 1) := by rw [show (1 : Int32) = nI 1 from rfl, pk_sub (by omega)]
    have loop : ∀ d j, j + d = q 24 - 1 → k ≤ j → ∀ M3, RowM M3 (tkN q k j) → OffY M2 M3 → kE 88 48 [.ref 166, .int (nI a), .int (nI k), .int (nI j)] [] M3 Q := by
      intro d
      induction d with
      | zero =>
        intro j hj hkj M3 hR3 hO3
        have : j = q 24 - 1 := by omega
        subst this
        have r : M3 167 24 = nI (q 24 - 1) := hR3 24 (by decide)
        have le : nI (q 24 - 1) ≤ nI (q 24 - 1) := nI_le (Nat.le_refl _) (by omega)
        rw [e88_48]
        simp only [e88_0, e88_1, e88_2, e88_4, e88_7, e88_10, e88_11, e88_12, e88_13, e88_14, e88_17, e88_18, e88_19, e88_21, e88_24, e88_26, e88_27, e88_28, e88_31, e88_32, e88_35, e88_36, e88_39, e88_41, e88_42, e88_43, e88_44, e88_45, e88_46, e88_47, e88_49, e88_50, e88_53, e88_55, e88_56, e88_59, e88_60, e88_63, e88_65, e88_66, e88_67, e88_68, e88_71, e88_73, e88_74, e88_75, e88_76, e88_77, e88_78, e88_79, e88_82, e88_85, e88_86, e88_89, e88_91, e88_92, eq_self, kcat_nil, kcat_int, kcat_long, kcat_ref, kNL_int, kNL_ref, kNL_null, Option.toList_some, Option.toList_none, List.nil_append, List.cons_append, Nat.reduceAdd, Nat.reduceLeDiff, Nat.reduceEqDiff, true_and, and_true, true_or, or_true, false_or, or_false, ite_true, ite_false, my1, my2, my7, my12, li24, kin_nI (show 24 < 137 by decide) (by decide), clN (show 24 < 2 ^ 31 by decide), r, le]
        exact hQ _ (hY1.cur (hO2.trans hO3) (hR3.congr (fun i _ => rfl))) (hF.trans (hO2.trans hO3).fy)
      | succ d ih =>
        intro j hj hkj M3 hR3 hO3
        have r : M3 167 24 = nI (q 24 - 1) := hR3 24 (by decide)
        have nle : ¬ nI (q 24 - 1) ≤ nI j := nI_ge (by omega) (by omega)
        have r2 : M3 167 (25 + (j + 1)) = nI (q (25 + (j + 1))) := by rw [hR3 _ (by omega), tk_at (by omega) (by omega)]
        rw [e88_48]
        simp only [e88_0, e88_1, e88_2, e88_4, e88_7, e88_10, e88_11, e88_12, e88_13, e88_14, e88_17, e88_18, e88_19, e88_21, e88_24, e88_26, e88_27, e88_28, e88_31, e88_32, e88_35, e88_36, e88_39, e88_41, e88_42, e88_43, e88_44, e88_45, e88_46, e88_47, e88_49, e88_50, e88_53, e88_55, e88_56, e88_59, e88_60, e88_63, e88_65, e88_66, e88_67, e88_68, e88_71, e88_73, e88_74, e88_75, e88_76, e88_77, e88_78, e88_79, e88_82, e88_85, e88_86, e88_89, e88_91, e88_92, eq_self, kcat_nil, kcat_int, kcat_long, kcat_ref, kNL_int, kNL_ref, kNL_null, Option.toList_some, Option.toList_none, List.nil_append, List.cons_append, Nat.reduceAdd, Nat.reduceLeDiff, Nat.reduceEqDiff, true_and, and_true, true_or, or_true, false_or, or_false, ite_true, ite_false, my1, my2, my7, my12, li24, li25, kin_nI (show 24 < 137 by decide) (by decide), clN (show 24 < 2 ^ 31 by decide), r, nle, if_false, nI_add, nI_add1, Nat.add_assoc, kin_nI (show 25 + j < 137 by omega) (by decide), clN (show 25 + j < 2 ^ 31 by omega), kin_nI (show 25 + (j + 1) < 137 by omega) (by decide), clN (show 25 + (j + 1) < 2 ^ 31 by omega), r2]
        exact ih (j + 1) (by omega) (by omega) _ ((hR3.set _ _).congr (fun i _ => tk_set (by omega) hkj i)) (hO3.set _ _)
    simp only [e88_0, e88_1, e88_2, e88_4, e88_7, e88_10, e88_11, e88_12, e88_13, e88_14, e88_17, e88_18, e88_19, e88_21, e88_24, e88_26, e88_27, e88_28, e88_31, e88_32, e88_35, e88_36, e88_39, e88_41, e88_42, e88_43, e88_44, e88_45, e88_46, e88_47, e88_49, e88_50, e88_53, e88_55, e88_56, e88_59, e88_60, e88_63, e88_65, e88_66, e88_67, e88_68, e88_71, e88_73, e88_74, e88_75, e88_76, e88_77, e88_78, e88_79, e88_82, e88_85, e88_86, e88_89, e88_91, e88_92, eq_self, kcat_nil, kcat_int, kcat_long, kcat_ref, kNL_int, kNL_ref, kNL_null, Option.toList_some, Option.toList_none, List.nil_append, List.cons_append, Nat.reduceAdd, Nat.reduceLeDiff, Nat.reduceEqDiff, true_and, and_true, true_or, or_true, false_or, or_false, ite_true, ite_false, my1, my2, my7, my12, li24, kin_nI (show 24 < 137 by decide) (by decide), clN (show 24 < 2 ^ 31 by decide), r24, m1]
    refine loop (q 24 - 1 - k) k (by omega) (Nat.le_refl _) _ ((hR2'.set 24 (q 24 - 1)).congr (fun i _ => ?_)) (OffY.rfl'.set _ _)
    unfold tkN nu
    by_cases h0 : i = 24
    · rw [if_pos h0, if_pos h0]
    · rw [if_neg h0, if_neg h0]
      by_cases h1 : 25 ≤ i ∧ i < 31
      · rw [if_pos h1, if_neg (by omega)]
      · rw [if_neg h1]
def cgN (q : NR) (j : Nat) : NR := fun i => if i < j then 0 else if 53 ≤ i ∧ i < 53 + j then q (i - 53) else q i
theorem cg_set {q : NR} {j : Nat} (hj : j < 10) (i : Nat) : cgN q (j + 1) i = nu (nu (cgN q j) (53 + j) (q j)) j 0 i := by
  unfold nu
  by_cases h1 : i = j
  · rw [if_pos h1]
    unfold cgN
    rw [if_pos (by omega)]
  · rw [if_neg h1]
    by_cases h2 : i = 53 + j
    · rw [if_pos h2]
      unfold cgN
      rw [if_neg (by omega), if_pos (by omega)]
      exact congrArg q (by omega)
    · rw [if_neg h2]
      unfold cgN
      by_cases h3 : i < j
      · rw [if_pos h3, if_pos (by omega)]
      · rw [if_neg h3, if_neg (by omega)]
        by_cases h4 : 53 ≤ i ∧ i < 53 + j
        · rw [if_pos h4, if_pos (by omega)]
        · rw [if_neg h4, if_neg (by omega)]
theorem beg_Inv {p : NR} {N T : Nat} (h : Inv p N) (hT : T = sumN p 0) (hT2 : T ≤ 99990) : Inv (begN (endsN p) T) N := by
  obtain ⟨g1, g2, g3, g4, g5, g6, g7, g8, g9, g10, g11, g12, g13, g14, g15, g16⟩ := h
  have e : ∀ i, i < 137 → begN (endsN p) T i = if i < 10 then 0 else if 53 ≤ i ∧ i < 63 then p (i - 53) else if i = 49 then 1 else if i = 50 then T else if i < 49 then p i else 0 := fun i hi => by
    unfold begN
    by_cases h1 : i < 10
    · rw [if_pos h1, if_pos h1]
    · rw [if_neg h1, if_neg h1]
      by_cases h2 : 53 ≤ i ∧ i < 63
      · rw [if_pos h2, if_pos h2, ends_lo (by omega)]
      · rw [if_neg h2, if_neg h2]
        by_cases h3 : i = 49
        · rw [if_pos h3, if_pos h3]
        · rw [if_neg h3, if_neg h3]
          by_cases h4 : i = 50
          · rw [if_pos h4, if_pos h4]
          · rw [if_neg h4, if_neg h4]
            by_cases h5 : i < 49
            · rw [if_pos h5, ends_lo h5]
            · rw [if_neg h5, ends_hi (by omega) hi]
  have lo : ∀ i, 10 ≤ i → i < 49 → begN (endsN p) T i = p i := fun i h1 h2 => by
    rw [e i (by omega), if_neg (by omega), if_neg (by omega), if_neg (by omega), if_neg (by omega), if_pos h2]
  have z : ∀ i, 51 ≤ i → i < 137 → ¬ (53 ≤ i ∧ i < 63) → begN (endsN p) T i = 0 := fun i h1 h2 h3 => by
    rw [e i h2, if_neg (by omega), if_neg h3, if_neg (by omega), if_neg (by omega), if_neg (by omega)]
  have e24 := lo 24 (by omega) (by omega)
  have e50 : begN (endsN p) T 50 = T := by rw [e 50 (by omega), if_neg (by omega), if_neg (by omega), if_neg (by omega), if_pos rfl]
  have e49 : begN (endsN p) T 49 = 1 := by rw [e 49 (by omega), if_neg (by omega), if_neg (by omega), if_pos rfl]
  refine ⟨fun k hk => by rw [e k (by omega), if_pos hk]; omega, fun k hk => by rw [lo _ (by omega) (by omega)]; exact g2 k hk, by rw [lo 20 (by omega) (by omega)]; exact g3, by rw [lo 21 (by omega) (by omega)]; exact g4, by rw [lo 22 (by omega) (by omega)]; exact g5, by rw [lo 23 (by omega) (by omega)]; exact g6, by rw [e24]; exact g7, fun t ht => ?_, fun t ht => by rw [lo _ (by omega) (by omega)]; exact g9 t ht, fun i h1 h2 => by rw [lo i (by omega) (by omega)]; exact g10 i h1 h2, by rw [e49]; omega, by rw [e50]; exact hT2, by rw [z 51 (by omega) (by omega) (by omega)]; omega, by rw [z 52 (by omega) (by omega) (by omega)]; omega, ?_, fun t ht _ => z _ (by omega) (by omega) (by omega)⟩
  · rw [e24] at ht
    rw [lo _ (by omega) (by omega)]
    exact g8 t ht
  · rw [e50]
    unfold totN
    rw [show (84 : Nat) = 10 + 74 from rfl, nsum_split, nsum_zero (n := 74) (fun k hk => z _ (by omega) (by omega) (by omega))]
    have : nsum (fun k => begN (endsN p) T (53 + k)) 10 = sumN p 0 := nsum_congr (fun k hk => by
      rw [e _ (by omega), if_neg (by omega), if_pos (by omega), Nat.zero_add]
      exact congrArg p (by omega))
    omega
theorem op_charge : OpOK 45 98 [] := by
  intro S N hN hI
  have hn := hI.1.f24
  have hs := sum0_le hI.1
  obtain ⟨T, hT⟩ : ∃ T, T = sumN S.1 0 := ⟨_, rfl⟩
  have zn : (nI (S.1 24) = 0) ↔ S.1 24 = 0 := nI_eq_iff (b := 0) (by omega) (by decide)
  have zt : (nI T = 0) ↔ T = 0 := nI_eq_iff (b := 0) (by omega) (by decide)
  have ys : ∀ (M : KMem), RowM M S.1 → ∀ Q', kE 69 0 [.ref 166, .int 0, .null, .null] [] M Q' = Q' (some (.int (nI T))) M := fun M hR Q' => by rw [hT]; exact y_sum (f := 0) hR (by decide)
  have xs : ∀ (M : KMem), StR 1 M (nr S.1) → ∀ Q', kE 62 0 [.ref 2, .null, .null, .null, .null, .null] [] M Q' = Q' (some (.int (nI T))) M := fun M hR Q' => by rw [hT]; exact x_sum2 hR
  by_cases hb : S.1 24 = 0 ∨ T = 0
  · refine ⟨-2, S, hI.mono, fun M Q hX hQ => ?_, fun M Q hY hQ => ?_⟩
    · show kE 45 0 [.ref 0, .null] [] M Q
      have e1 : M 1 5 = nI (S.1 24) := hX.1.f24
      simp only [e45_0, e45_1, e45_4, e45_7, e45_10, e45_11, e45_12, e45_15, e45_18, e45_21, e45_22, e45_25, e45_27, e45_28, e45_29, e45_32, e45_33, e45_36, e45_39, e45_40, e45_43, e45_44, e45_47, e45_48, eq_self, kcat_nil, kcat_int, kcat_long, kcat_ref, kNL_int, kNL_ref, kNL_null, Option.toList_some, Option.toList_none, List.nil_append, List.cons_append, Nat.reduceAdd, Nat.reduceLeDiff, Nat.reduceEqDiff, true_and, and_true, true_or, or_true, false_or, or_false, ite_true, ite_false, tp1, tp5, tp18, tp20, xs M hX.1, e1, zn, zt]
      by_cases h0 : S.1 24 = 0
      · rw [if_pos h0]; exact hQ M hX Fx.rfl'
      · rw [if_neg h0, if_neg (fun z => z (hb.resolve_left h0))]; exact hQ M hX Fx.rfl'
    · show kE 98 0 [.ref 166, .null, .null] [] M Q
      simp only [e98_0, e98_1, e98_2, e98_5, e98_6, e98_7, e98_10, e98_12, e98_13, e98_16, e98_17, e98_20, e98_22, e98_23, e98_24, e98_27, e98_28, e98_31, e98_32, e98_34, e98_36, e98_39, e98_40, e98_43, e98_44, e98_45, e98_48, e98_49, e98_50, e98_51, e98_54, e98_55, e98_56, e98_57, e98_58, e98_59, e98_60, e98_63, e98_64, e98_65, e98_66, e98_67, e98_68, e98_71, e98_74, e98_75, e98_78, e98_80, e98_81, e98_82, e98_83, e98_86, e98_88, e98_89, e98_90, e98_91, eq_self, kcat_nil, kcat_int, kcat_long, kcat_ref, kNL_int, kNL_ref, kNL_null, Option.toList_some, Option.toList_none, List.nil_append, List.cons_append, Nat.reduceAdd, Nat.reduceLeDiff, Nat.reduceEqDiff, true_and, and_true, true_or, or_true, false_or, or_false, ite_true, ite_false, my1, my2, my7, my12, li24, kin_nI (show 24 < 137 by decide) (by decide), clN (show 24 < 2 ^ 31 by decide), ys M hY.1, row24 hY.1, zn, zt]
      by_cases h0 : S.1 24 = 0
      · rw [if_pos h0]; exact hQ M hY Fy.rfl'
      · rw [if_neg h0, if_neg (fun z => z (hb.resolve_left h0))]; exact hQ M hY Fy.rfl'
  have h0 : ¬ S.1 24 = 0 := fun z => hb (Or.inl z)
  have h1 : ¬ T = 0 := fun z => hb (Or.inr z)
  obtain ⟨q, hq⟩ : ∃ q, q = endsN S.1 := ⟨_, rfl⟩
  refine ⟨nI T, (begN q T, (sav S).2), hI.sav.cur (by rw [hq]; exact (beg_Inv hI.1 hT (by omega)).mono), fun M Q hX hQ => ?_, fun M Q hY hQ => ?_⟩
  · show kE 45 0 [.ref 0, .null] [] M Q
    have e1 : M 1 5 = nI (S.1 24) := hX.1.f24
    simp only [e45_0, e45_1, e45_4, e45_7, e45_10, e45_11, e45_12, e45_15, e45_18, e45_21, e45_22, e45_25, e45_27, e45_28, e45_29, e45_33, e45_36, e45_39, e45_40, e45_43, e45_44, e45_47, e45_48, eq_self, kcat_nil, kcat_int, kcat_long, kcat_ref, kNL_int, kNL_ref, kNL_null, Option.toList_some, Option.toList_none, List.nil_append, List.cons_append, Nat.reduceAdd, Nat.reduceLeDiff, Nat.reduceEqDiff, true_and, and_true, true_or, or_true, false_or, or_false, ite_true, ite_false, tp1, tp5, tp18, tp20, xs M hX.1, e1, zn, zt, h0, h1, if_false, not_false_eq_true]
    refine x_saveState hX hI.1.f49 (fun M1 hX1 hF _ _ _ => ?_)
    simp only [e45_0, e45_1, e45_4, e45_7, e45_10, e45_11, e45_12, e45_15, e45_18, e45_21, e45_22, e45_25, e45_27, e45_28, e45_29, e45_32, e45_33, e45_36, e45_40, e45_43, e45_44, e45_47, e45_48, eq_self, kcat_nil, kcat_int, kcat_long, kcat_ref, kNL_int, kNL_ref, kNL_null, Option.toList_some, Option.toList_none, List.nil_append, List.cons_append, Nat.reduceAdd, Nat.reduceLeDiff, Nat.reduceEqDiff, true_and, and_true, true_or, or_true, false_or, or_false, ite_true, ite_false, tp1, tp5, tp18]
    refine x_endAnalysis st1 hX1.1 (fun M2 hR2 hO2 => ?_)
    have hR2' : StR 1 M2 (nr q) := by rw [hq]; exact hR2
    simp only [e45_0, e45_1, e45_4, e45_7, e45_10, e45_11, e45_12, e45_15, e45_18, e45_21, e45_22, e45_25, e45_27, e45_28, e45_29, e45_32, e45_33, e45_36, e45_39, e45_40, e45_43, e45_44, e45_48, eq_self, kcat_nil, kcat_int, kcat_long, kcat_ref, kNL_int, kNL_ref, kNL_null, Option.toList_some, Option.toList_none, List.nil_append, List.cons_append, Nat.reduceAdd, Nat.reduceLeDiff, Nat.reduceEqDiff, true_and, and_true, true_or, or_true, false_or, or_false, ite_true, ite_false, tp1, tp5, tp18]
    refine x_beginAnalysis st1 hR2' (fun M3 hR3 hO3 => ?_)
    simp only [e45_0, e45_1, e45_4, e45_7, e45_10, e45_11, e45_12, e45_15, e45_18, e45_21, e45_22, e45_25, e45_27, e45_28, e45_29, e45_32, e45_33, e45_36, e45_39, e45_40, e45_43, e45_44, e45_47, e45_48, eq_self, kcat_nil, kcat_int, kcat_long, kcat_ref, kNL_int, kNL_ref, kNL_null, Option.toList_some, Option.toList_none, List.nil_append, List.cons_append, Nat.reduceAdd, Nat.reduceLeDiff, Nat.reduceEqDiff, true_and, and_true, true_or, or_true, false_or, or_false, ite_true, ite_false]
    exact hQ _ (hX1.cur (hO2.trans hO3) hR3) (fx1 hF (hO2.trans hO3))
  · show kE 98 0 [.ref 166, .null, .null] [] M Q
    simp only [e98_0, e98_1, e98_2, e98_5, e98_6, e98_7, e98_10, e98_12, e98_13, e98_16, e98_17, e98_20, e98_22, e98_23, e98_24, e98_28, e98_31, e98_32, e98_34, e98_36, e98_39, e98_40, e98_43, e98_44, e98_45, e98_48, e98_49, e98_50, e98_51, e98_54, e98_55, e98_56, e98_57, e98_58, e98_59, e98_60, e98_63, e98_64, e98_65, e98_66, e98_67, e98_68, e98_71, e98_74, e98_75, e98_78, e98_80, e98_81, e98_82, e98_83, e98_86, e98_88, e98_89, e98_90, e98_91, eq_self, kcat_nil, kcat_int, kcat_long, kcat_ref, kNL_int, kNL_ref, kNL_null, Option.toList_some, Option.toList_none, List.nil_append, List.cons_append, Nat.reduceAdd, Nat.reduceLeDiff, Nat.reduceEqDiff, true_and, and_true, true_or, or_true, false_or, or_false, ite_true, ite_false, my1, my2, my7, my12, li24, kin_nI (show 24 < 137 by decide) (by decide), clN (show 24 < 2 ^ 31 by decide), ys M hY.1, row24 hY.1, zn, zt, h0, h1, if_false, not_false_eq_true]
    refine y_notes hY (fun M1 hY1 hF _ _ _ => ?_)
    simp only [e98_0, e98_1, e98_2, e98_5, e98_6, e98_7, e98_10, e98_12, e98_13, e98_16, e98_17, e98_20, e98_22, e98_23, e98_24, e98_27, e98_28, e98_32, e98_34, e98_36, e98_39, e98_40, e98_43, e98_44, e98_45, e98_48, e98_49, e98_50, e98_51, e98_54, e98_55, e98_56, e98_57, e98_58, e98_59, e98_60, e98_63, e98_64, e98_65, e98_66, e98_67, e98_68, e98_71, e98_74, e98_75, e98_78, e98_80, e98_81, e98_82, e98_83, e98_86, e98_88, e98_89, e98_90, e98_91, eq_self, kcat_nil, kcat_int, kcat_long, kcat_ref, kNL_int, kNL_ref, kNL_null, Option.toList_some, Option.toList_none, List.nil_append, List.cons_append, Nat.reduceAdd, Nat.reduceLeDiff, Nat.reduceEqDiff, true_and, and_true, true_or, or_true, false_or, or_false, ite_true, ite_false, my1]
    refine y_ends hY1.1 (fun M2 hR2 hO2 => ?_)
    have hR2' : RowM M2 q := by rw [hq]; exact hR2
    have ya : ∀ (M : KMem) Q, kE 84 0 [.ref 166, .int 0] [] M Q = Q (some (.int (nI 53))) M := fun M Q => y_at (t := 0)
    have n0 : ∀ j : Nat, (0 : Int32) + nI j = nI j := fun j => Int32.zero_add _
    have loop : ∀ d j, j + d = 10 → ∀ M3, RowM M3 (cgN q j) → OffY M2 M3 → kE 98 33 [.ref 166, .int (nI T), .int (nI j)] [] M3 Q := by
      intro d
      induction d with
      | zero =>
        intro j hj M3 hR3 hO3
        have : j = 10 := by omega
        subst this
        have le : (10 : Int32) ≤ nI 10 := by decide
        rw [e98_33]
        simp only [e98_0, e98_1, e98_2, e98_5, e98_6, e98_7, e98_10, e98_12, e98_13, e98_16, e98_17, e98_20, e98_22, e98_23, e98_24, e98_27, e98_28, e98_31, e98_32, e98_34, e98_36, e98_39, e98_40, e98_43, e98_44, e98_45, e98_48, e98_49, e98_50, e98_51, e98_54, e98_55, e98_56, e98_57, e98_58, e98_59, e98_60, e98_63, e98_64, e98_65, e98_66, e98_67, e98_68, e98_71, e98_74, e98_75, e98_78, e98_80, e98_81, e98_82, e98_83, e98_86, e98_88, e98_89, e98_90, e98_91, eq_self, kcat_nil, kcat_int, kcat_long, kcat_ref, kNL_int, kNL_ref, kNL_null, Option.toList_some, Option.toList_none, List.nil_append, List.cons_append, Nat.reduceAdd, Nat.reduceLeDiff, Nat.reduceEqDiff, true_and, and_true, true_or, or_true, false_or, or_false, ite_true, ite_false, le, my1, my2, my7, my12, li49, li50, kin_nI (show 49 < 137 by decide) (by decide), clN (show 49 < 2 ^ 31 by decide), kin_nI (show 50 < 137 by decide) (by decide), clN (show 50 < 2 ^ 31 by decide)]
        refine hQ _ (hY1.cur (hO2.trans ((hO3.set 49 1).set 50 (nI T))) (((hR3.set 49 1).set 50 T).congr (fun i _ => ?_))) (hF.trans (hO2.trans ((hO3.set 49 1).set 50 (nI T))).fy)
        unfold begN nu
        by_cases c1 : i = 50
        · rw [if_pos c1, if_neg (by omega), if_neg (by omega), if_neg (by omega), if_pos c1]
        · rw [if_neg c1]
          by_cases c2 : i = 49
          · rw [if_pos c2, if_neg (by omega), if_neg (by omega), if_pos c2, if_neg c1]
          · rw [if_neg c2, if_neg c2, if_neg c1]
            rfl
      | succ d ih =>
        intro j hj M3 hR3 hO3
        have nle : ¬ (10 : Int32) ≤ nI j := by rw [show (10 : Int32) = nI 10 from rfl]; exact nI_ge (by omega) (by decide)
        have r2 : M3 167 j = nI (q j) := by
          rw [hR3 _ (by omega)]
          unfold cgN
          rw [if_neg (by omega), if_neg (by omega)]
        rw [e98_33]
        simp only [e98_0, e98_1, e98_2, e98_5, e98_6, e98_7, e98_10, e98_12, e98_13, e98_16, e98_17, e98_20, e98_22, e98_23, e98_24, e98_27, e98_28, e98_31, e98_32, e98_34, e98_36, e98_39, e98_40, e98_43, e98_44, e98_45, e98_48, e98_49, e98_50, e98_51, e98_54, e98_55, e98_56, e98_57, e98_58, e98_59, e98_60, e98_63, e98_64, e98_65, e98_66, e98_67, e98_68, e98_71, e98_74, e98_75, e98_78, e98_80, e98_81, e98_82, e98_83, e98_86, e98_88, e98_89, e98_90, e98_91, eq_self, kcat_nil, kcat_int, kcat_long, kcat_ref, kNL_int, kNL_ref, kNL_null, Option.toList_some, Option.toList_none, List.nil_append, List.cons_append, Nat.reduceAdd, Nat.reduceLeDiff, Nat.reduceEqDiff, true_and, and_true, true_or, or_true, false_or, or_false, ite_true, ite_false, my1, my2, my7, my12, nle, if_false, ya, n0, nI_add, nI_add1, kin_nI (show 53 + j < 137 by omega) (by decide), clN (show 53 + j < 2 ^ 31 by omega), kin_nI (show j < 137 by omega) (by decide), clN (show j < 2 ^ 31 by omega), r2]
        exact ih (j + 1) (by omega) _ (((hR3.set (53 + j) (q j)).set j 0).congr (fun i _ => cg_set (by omega) i)) ((hO3.set _ _).set _ _)
    simp only [e98_0, e98_1, e98_2, e98_5, e98_6, e98_7, e98_10, e98_12, e98_13, e98_16, e98_17, e98_20, e98_22, e98_23, e98_24, e98_27, e98_28, e98_31, e98_32, e98_34, e98_36, e98_39, e98_40, e98_43, e98_44, e98_45, e98_48, e98_49, e98_50, e98_51, e98_54, e98_55, e98_56, e98_57, e98_58, e98_59, e98_60, e98_63, e98_64, e98_65, e98_66, e98_67, e98_68, e98_71, e98_74, e98_75, e98_78, e98_80, e98_81, e98_82, e98_83, e98_86, e98_88, e98_89, e98_90, e98_91, eq_self, kcat_nil, kcat_int, kcat_long, kcat_ref, kNL_int, kNL_ref, kNL_null, Option.toList_some, Option.toList_none, List.nil_append, List.cons_append, Nat.reduceAdd, Nat.reduceLeDiff, Nat.reduceEqDiff, true_and, and_true, true_or, or_true, false_or, or_false, ite_true, ite_false, my1]
    exact loop 10 0 rfl M2 (hR2'.congr (fun i _ => by
      unfold cgN
      rw [if_neg (by omega), if_neg (by omega)])) OffY.rfl'
