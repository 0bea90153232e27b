/-! the reading calls -/
def cntV (S : KS) (x : Int32) : Int32 := if x = 0 then nI (S.1 24) else if x = 1 then nI (S.1 20) else if x = 2 then nI (S.1 21) else if x = 3 then nI (S.1 22) else if x = 4 then nI (S.1 23) else if x = 5 then nI (S.1 49) else if x = 6 then nI (S.1 51) else if x = 7 then nI (S.1 52) else if x = 8 then nI S.2.2.2.1 else if x = 9 then nI S.2.1 else -1
theorem x_count {S : KS} {N : Nat} {M : KMem} {x : Int32} (hI : IS S N) (hX : XR S M) (Q : Option Value → KMem → Prop) : kE 26 0 [.ref 0, .int x] [] M Q = Q (some (.int (cntV S x))) M := by
  refine kE_det ?_ Q
  · obtain ⟨Q, hQ⟩ : ∃ Q : Option Value → KMem → Prop, Q = fun r' M' => r' = some (.int (cntV S x)) ∧ M' = M := ⟨_, rfl⟩
    have hq : Q (some (.int (cntV S x))) M := by rw [hQ]; exact ⟨rfl, rfl⟩
    rw [← hQ]
    clear hQ
    have hR := hX.1
    have e1 : M 1 5 = nI (S.1 24) := hR.f24
    have e2 : M 1 6 = nI (S.1 20) := hR.f20
    have e3 : M 1 7 = nI (S.1 21) := hR.f21
    have e4 : M 1 8 = nI (S.1 22) := hR.f22
    have e5 : M 1 9 = nI (S.1 23) := hR.f23
    have e6 : M 1 10 = nI (S.1 49) := hR.f49
    have e7 : M 1 12 = nI (S.1 51) := hR.f51
    have e8 : M 1 13 = nI (S.1 52) := hR.f52
    have e9 : M 162 3 = nI S.2.2.2.1 := hX.2.2.2.2.1
    have e10 : M 0 5 = nI S.2.1 := hX.2.2.1
    have h49 := hI.1.f49
    have z : (nI (S.1 49) = 0) ↔ S.1 49 = 0 := nI_eq_iff (b := 0) (by omega) (by decide)
    unfold cntV at hq
    simp only [e26_0, e26_1, e26_56, e26_57, e26_60, e26_63, e26_64, e26_65, e26_68, e26_71, e26_72, e26_73, e26_76, e26_79, e26_80, e26_81, e26_84, e26_87, e26_88, e26_89, e26_92, e26_95, e26_96, e26_97, e26_100, e26_103, e26_106, e26_107, e26_110, e26_111, e26_112, e26_113, e26_116, e26_119, e26_120, e26_121, e26_124, e26_127, e26_128, e26_129, e26_132, e26_135, e26_136, e26_137, e26_140, e26_141, e26_142, eq_self, kcat_nil, kcat_int, kcat_long, kcat_ref, kNL_int, kNL_ref, kNL_null, Option.toList_some, Option.toList_none, List.nil_append, List.cons_append, Nat.reduceAdd, Nat.reduceLeDiff, Nat.reduceEqDiff, true_and, and_true, true_or, or_true, false_or, or_false, ite_true, ite_false, tp1, tp4, tp5, tp7, tp18, e1, e2, e3, e4, e5, e6, e7, e8, e9, e10, z]
    by_cases h0 : x = 0
    · simpa only [h0, if_true] using hq
    by_cases h1 : x = 1
    · simpa only [h0, h1, if_true, if_false, if_neg (show ¬ (1 : Int32) = 0 by decide)] using hq
    by_cases h2 : x = 2
    · simpa only [h0, h1, h2, if_true, if_false, if_neg (show ¬ (2 : Int32) = 0 by decide), if_neg (show ¬ (2 : Int32) = 1 by decide)] using hq
    by_cases h3 : x = 3
    · rw [if_neg h0, if_neg h1, if_neg h2, if_pos h3] at hq ⊢; exact hq
    by_cases h4 : x = 4
    · rw [if_neg h0, if_neg h1, if_neg h2, if_neg h3, if_pos h4] at hq ⊢; exact hq
    by_cases h5 : x = 5
    · rw [if_neg h0, if_neg h1, if_neg h2, if_neg h3, if_neg h4, if_pos h5] at hq ⊢
      by_cases hz : S.1 49 = 0
      · rw [if_pos hz]
        rw [hz] at hq
        exact hq
      · rw [if_neg hz]
        rw [show S.1 49 = 1 from by omega] at hq
        exact hq
    by_cases h6 : x = 6
    · rw [if_neg h0, if_neg h1, if_neg h2, if_neg h3, if_neg h4, if_neg h5, if_pos h6] at hq ⊢; exact hq
    by_cases h7 : x = 7
    · rw [if_neg h0, if_neg h1, if_neg h2, if_neg h3, if_neg h4, if_neg h5, if_neg h6, if_pos h7] at hq ⊢; exact hq
    by_cases h8 : x = 8
    · rw [if_neg h0, if_neg h1, if_neg h2, if_neg h3, if_neg h4, if_neg h5, if_neg h6, if_neg h7, if_pos h8] at hq ⊢; exact hq
    by_cases h9 : x = 9
    · rw [if_neg h0, if_neg h1, if_neg h2, if_neg h3, if_neg h4, if_neg h5, if_neg h6, if_neg h7, if_neg h8, if_pos h9] at hq ⊢; exact hq
    rw [if_neg h0, if_neg h1, if_neg h2, if_neg h3, if_neg h4, if_neg h5, if_neg h6, if_neg h7, if_neg h8, if_neg h9] at hq ⊢
    exact hq
def cnt8 (p : NR) (k : Nat) : Nat := if k = 0 then p 24 else if k = 1 then p 20 else if k = 2 then p 21 else if k = 3 then p 22 else if k = 4 then p 23 else if k = 5 then p 49 else if k = 6 then p 51 else p 52
theorem cnt_8 (S : KS) : ∀ k, k < 8 → cntV S (nI k) = nI (cnt8 S.1 k) := fun k hk => by
  match k, hk with
  | 0, _ => rfl
  | 1, _ => rfl
  | 2, _ => rfl
  | 3, _ => rfl
  | 4, _ => rfl
  | 5, _ => rfl
  | 6, _ => rfl
  | 7, _ => rfl
theorem x_on {S : KS} {N t k : Nat} {M : KMem} (hI : IS S N) (hX : XR S M) (ht : t ≤ S.1 24) (hk : k ≤ 9) (Q : Option Value → KMem → Prop) : kE 28 0 [.ref 0, .int (nI t), .int (nI k)] [] M Q = Q (some (.int (nI (S.1 (53 + 12 * t + k))))) M := by
  have n10 : ¬ (1 : Int32) = 0 := by decide
  have hn := hI.1.f24
  have c : (0 : Int32) ≤ nI t ∧ nI t ≤ nI (S.1 24) := rng_in (lo := 0) (hi := S.1 24) (Nat.zero_le _) ht (by omega)
  have c2 : (0 : Int32) ≤ nI k ∧ nI k ≤ 9 := rng_in (lo := 0) (hi := 9) (Nat.zero_le _) hk (by decide)
  refine kE_det ?_ Q
  have e1 : M 1 5 = nI (S.1 24) := hX.1.f24
  have e2 : M (8 + 2 * t) k = nI (S.1 (53 + 12 * t + k)) := hX.1.ly (by omega) (by omega)
  simp only [e28_0, e28_1, e28_4, e28_5, e28_8, e28_11, e28_12, e28_15, e28_18, e28_19, e28_20, e28_21, e28_24, e28_27, e28_28, e28_29, e28_32, e28_33, e28_34, eq_self, kcat_nil, kcat_int, kcat_long, kcat_ref, kNL_int, kNL_ref, kNL_null, Option.toList_some, Option.toList_none, List.nil_append, List.cons_append, Nat.reduceAdd, Nat.reduceLeDiff, Nat.reduceEqDiff, true_and, and_true, true_or, or_true, false_or, or_false, ite_true, ite_false, tp1, tp5, tp18, x_isTray st1, e1, c, and_self, n10, x_isClass, c2, if_false, if_true, not_false_eq_true, tp22, tp27, tp32, kin_nI (show t < 7 by omega) (by decide), clN (show t < 2 ^ 31 by omega), tp35, kd_t1 (show t < 7 by omega), rf_t1 (show t < 7 by omega), kd_l1 (show t < 7 by omega), ln_l1 (show t < 7 by omega), kin_nI (show k < 10 by omega) (by decide), clN (show k < 2 ^ 31 by omega), e2]
def trayV (p : NR) (t : Nat) (y : Int32) : Int32 := if y = 0 then nI (if t = p 24 then 0 else p (25 + t)) else if y = 1 then nI (sumN p (53 + 12 * t)) else if y = 2 then nI (p (53 + 12 * t + 10)) else if y = 3 then nI (p (53 + 12 * t + 11)) else if y = 4 then nI (if t = p 24 then 1000 else openN p t) else -1
theorem x_tray {S : KS} {N t : Nat} {y : Int32} {M : KMem} (hI : IS S N) (hX : XR S M) (ht : t ≤ S.1 24) (Q : Option Value → KMem → Prop) : kE 27 0 [.ref 0, .int (nI t), .int y, .null] [] M Q = Q (some (.int (trayV S.1 t y))) M := by
  have n10 : ¬ (1 : Int32) = 0 := by decide
  have hn := hI.1.f24
  have c : (0 : Int32) ≤ nI t ∧ nI t ≤ nI (S.1 24) := rng_in (lo := 0) (hi := S.1 24) (Nat.zero_le _) ht (by omega)
  have hX0 : ∀ M Q, XR S M → kE 27 0 [.ref 0, .int (nI t), .int y, .null] [] M Q = kE 27 24 [.ref 0, .int (nI t), .int y, .ref (7 + 2 * t)] [.int y] M Q := fun M Q hX => by
    have e1 : M 1 5 = nI (S.1 24) := hX.1.f24
    simp only [e27_0, e27_1, e27_4, e27_5, e27_8, e27_11, e27_12, e27_13, e27_14, e27_17, e27_20, e27_21, e27_22, e27_23, e27_60, e27_61, e27_64, e27_65, e27_66, e27_69, e27_72, e27_73, e27_74, e27_77, e27_78, e27_79, e27_82, e27_83, e27_84, e27_85, e27_88, e27_91, e27_94, e27_95, e27_96, eq_self, kcat_nil, kcat_int, kcat_long, kcat_ref, kNL_int, kNL_ref, kNL_null, Option.toList_some, Option.toList_none, List.nil_append, List.cons_append, Nat.reduceAdd, Nat.reduceLeDiff, Nat.reduceEqDiff, true_and, and_true, true_or, or_true, false_or, or_false, ite_true, ite_false, tp1, tp5, tp18, x_isTray st1, e1, c, and_self, n10, if_false, if_true, not_false_eq_true, tp22, tp27, tp32, kin_nI (show t < 7 by omega) (by decide), clN (show t < 2 ^ 31 by omega), tp35]
  by_cases h0 : y = 0
  · subst h0
    · refine kE_det ?_ Q
      rw [hX0 M _ hX]
      have hcl : (nr S.1 24).toNatClampNeg = S.1 24 := clN (by omega)
      have e2 : M (7 + 2 * t) 1 = nI (if t = S.1 24 then 0 else S.1 (25 + t)) := by
        by_cases h : t = S.1 24
        · rw [if_pos h]; exact hX.1.2.2 t (by omega) (by rw [hcl]; omega)
        · rw [if_neg h]; exact hX.1.2.1 t (by omega) (by rw [hcl]; omega)
      rw [e27_24, if_pos rfl]
      simp only [e27_0, e27_1, e27_4, e27_5, e27_8, e27_11, e27_12, e27_13, e27_14, e27_17, e27_20, e27_21, e27_22, e27_23, e27_24, e27_60, e27_61, e27_64, e27_65, e27_66, e27_69, e27_72, e27_73, e27_74, e27_77, e27_78, e27_79, e27_82, e27_83, e27_84, e27_85, e27_88, e27_91, e27_94, e27_95, e27_96, eq_self, kcat_nil, kcat_int, kcat_long, kcat_ref, kNL_int, kNL_ref, kNL_null, Option.toList_some, Option.toList_none, List.nil_append, List.cons_append, Nat.reduceAdd, Nat.reduceLeDiff, Nat.reduceEqDiff, true_and, and_true, true_or, or_true, false_or, or_false, ite_true, ite_false, kd_t1 (show t < 7 by omega), e2]
      rfl
  by_cases h1 : y = 1
  · subst h1
    · refine kE_det ?_ Q
      rw [hX0 M _ hX, e27_24, if_neg h0, if_pos rfl]
      have e := sum_ly hX.1 (show t < 7 by omega)
      have e : ksum (M (8 + 2 * t)) 10 = nI (sumN S.1 (53 + 12 * t)) := e
      simp only [e27_0, e27_1, e27_4, e27_5, e27_8, e27_11, e27_12, e27_13, e27_14, e27_17, e27_20, e27_21, e27_22, e27_23, e27_24, e27_60, e27_61, e27_64, e27_65, e27_66, e27_69, e27_72, e27_73, e27_74, e27_77, e27_78, e27_79, e27_82, e27_83, e27_84, e27_85, e27_88, e27_91, e27_94, e27_95, e27_96, eq_self, kcat_nil, kcat_int, kcat_long, kcat_ref, kNL_int, kNL_ref, kNL_null, Option.toList_some, Option.toList_none, List.nil_append, List.cons_append, Nat.reduceAdd, Nat.reduceLeDiff, Nat.reduceEqDiff, true_and, and_true, true_or, or_true, false_or, or_false, ite_true, ite_false, kd_t1 (show t < 7 by omega), rf_t1 (show t < 7 by omega), x_sumOf (kd_l1 (show t < 7 by omega)) (show ln (8 + 2 * t) < 2 ^ 31 by rw [ln_l1 (by omega)]; decide), ln_l1 (show t < 7 by omega), e]
      rfl
  by_cases h2 : y = 2
  · subst h2
    · refine kE_det ?_ Q
      rw [hX0 M _ hX, e27_24, if_neg h0, if_neg h1, if_pos rfl]
      have e : M (7 + 2 * t) 2 = nI (S.1 (53 + 12 * t + 10)) := hX.1.sk (by omega)
      simp only [e27_0, e27_1, e27_4, e27_5, e27_8, e27_11, e27_12, e27_13, e27_14, e27_17, e27_20, e27_21, e27_22, e27_23, e27_24, e27_60, e27_61, e27_64, e27_65, e27_66, e27_69, e27_72, e27_73, e27_74, e27_77, e27_78, e27_79, e27_82, e27_83, e27_84, e27_85, e27_88, e27_91, e27_94, e27_95, e27_96, eq_self, kcat_nil, kcat_int, kcat_long, kcat_ref, kNL_int, kNL_ref, kNL_null, Option.toList_some, Option.toList_none, List.nil_append, List.cons_append, Nat.reduceAdd, Nat.reduceLeDiff, Nat.reduceEqDiff, true_and, and_true, true_or, or_true, false_or, or_false, ite_true, ite_false, kd_t1 (show t < 7 by omega), e]
      rfl
  by_cases h3 : y = 3
  · subst h3
    · refine kE_det ?_ Q
      rw [hX0 M _ hX, e27_24, if_neg h0, if_neg h1, if_neg h2, if_pos rfl]
      have e : M (7 + 2 * t) 3 = nI (S.1 (53 + 12 * t + 11)) := hX.1.co (by omega)
      simp only [e27_0, e27_1, e27_4, e27_5, e27_8, e27_11, e27_12, e27_13, e27_14, e27_17, e27_20, e27_21, e27_22, e27_23, e27_24, e27_60, e27_61, e27_64, e27_65, e27_66, e27_69, e27_72, e27_73, e27_74, e27_77, e27_78, e27_79, e27_82, e27_83, e27_84, e27_85, e27_88, e27_91, e27_94, e27_95, e27_96, eq_self, kcat_nil, kcat_int, kcat_long, kcat_ref, kNL_int, kNL_ref, kNL_null, Option.toList_some, Option.toList_none, List.nil_append, List.cons_append, Nat.reduceAdd, Nat.reduceLeDiff, Nat.reduceEqDiff, true_and, and_true, true_or, or_true, false_or, or_false, ite_true, ite_false, kd_t1 (show t < 7 by omega), e]
      rfl
  by_cases h4 : y = 4
  · subst h4
    have hst := tot_ge (p := S.1) (i := 53 + 12 * t + 10) (by omega) (by omega)
    have htt := hI.1.tot
    have hC := hI.1.2.2.1
    · refine kE_det ?_ Q
      rw [hX0 M _ hX, e27_24, if_neg h0, if_neg h1, if_neg h2, if_neg h3, if_pos rfl]
      have e : M (7 + 2 * t) 2 = nI (S.1 (53 + 12 * t + 10)) := hX.1.sk (by omega)
      have e6 : M 1 6 = nI (S.1 20) := hX.1.f20
      simp only [e27_0, e27_1, e27_4, e27_5, e27_8, e27_11, e27_12, e27_13, e27_14, e27_17, e27_20, e27_21, e27_22, e27_23, e27_24, e27_60, e27_61, e27_64, e27_65, e27_66, e27_69, e27_72, e27_73, e27_74, e27_77, e27_78, e27_79, e27_82, e27_83, e27_84, e27_85, e27_88, e27_91, e27_94, e27_95, e27_96, eq_self, kcat_nil, kcat_int, kcat_long, kcat_ref, kNL_int, kNL_ref, kNL_null, Option.toList_some, Option.toList_none, List.nil_append, List.cons_append, Nat.reduceAdd, Nat.reduceLeDiff, Nat.reduceEqDiff, true_and, and_true, true_or, or_true, false_or, or_false, ite_true, ite_false, tp1, tp5, tp18, kd_t1 (show t < 7 by omega), x_openness (kd_t1 (show t < 7 by omega)), e, e6, xopen_nI (show S.1 (53 + 12 * t + 10) ≤ 99990 by omega) hC.1 hC.2]
      by_cases h : t = S.1 24
      · have hz : S.1 (53 + 12 * t + 10) = 0 := hI.1.2.2.2.2.2.2.2.2.2.2.2.2.2.2.2 t (by omega) (by omega)
        rw [hz, Nat.zero_mul, Nat.zero_div]
        show _ = some (Value.int (nI (if t = S.1 24 then 1000 else openN S.1 t)))
        rw [if_pos h]
        rfl
      · show _ = some (Value.int (nI (if t = S.1 24 then 1000 else openN S.1 t)))
        rw [if_neg h]
        rfl
  · refine kE_det ?_ Q
    unfold trayV
    rw [if_neg h0, if_neg h1, if_neg h2, if_neg h3, if_neg h4]
    rw [hX0 M _ hX, e27_24, if_neg h0, if_neg h1, if_neg h2, if_neg h3, if_neg h4]
    simp only [e27_0, e27_1, e27_4, e27_5, e27_8, e27_11, e27_12, e27_13, e27_14, e27_17, e27_20, e27_21, e27_22, e27_23, e27_24, e27_60, e27_61, e27_64, e27_65, e27_66, e27_69, e27_72, e27_73, e27_74, e27_77, e27_78, e27_79, e27_82, e27_83, e27_84, e27_85, e27_88, e27_91, e27_94, e27_95, e27_96, eq_self, kcat_nil, kcat_int, kcat_long, kcat_ref, kNL_int, kNL_ref, kNL_null, Option.toList_some, Option.toList_none, List.nil_append, List.cons_append, Nat.reduceAdd, Nat.reduceLeDiff, Nat.reduceEqDiff, true_and, and_true, true_or, or_true, false_or, or_false, ite_true, ite_false]
