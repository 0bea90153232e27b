/-! small methods -/
theorem ii_lt {a b : Int32} : a < b ↔ a.toInt < b.toInt := Int32.lt_iff_toInt_lt
theorem ii_le {a b : Int32} : a ≤ b ↔ a.toInt ≤ b.toInt := Int32.le_iff_toInt_le
theorem ii_eq {a b : Int32} : a = b ↔ a.toInt = b.toInt := Int32.toInt_inj.symm
theorem ii_z : (0 : Int32).toInt = 0 := rfl
theorem ii_o : (1 : Int32).toInt = 1 := rfl
theorem x_isIn {x lo hi : Int32} {M : KMem} {Q : Option Value → KMem → Prop} : kE 37 0 [.int x, .int lo, .int hi] [] M Q = if lo ≤ x ∧ x ≤ hi then Q (some (.int 1)) M else Q (some (.int 0)) M := by
  simp only [e37_0, e37_1, e37_2, e37_5, e37_6, e37_7, e37_10, e37_11, e37_14, e37_15, eq_self, kcat_nil, kcat_int, kcat_long, kcat_ref, kNL_int, kNL_ref, kNL_null, Option.toList_some, Option.toList_none, List.nil_append, List.cons_append, Nat.reduceAdd, Nat.reduceLeDiff, Nat.reduceEqDiff, true_and, and_true, true_or, or_true, false_or, or_false, ite_true, ite_false]
  simp only [ii_lt, ii_le]
  split
  · rw [if_neg (by omega)]
  · split
    · rw [if_neg (by omega)]
    · rw [if_pos (by omega)]
theorem x_isClass {x : Int32} {M : KMem} {Q : Option Value → KMem → Prop} : kE 38 0 [.int x] [] M Q = if 0 ≤ x ∧ x ≤ 9 then Q (some (.int 1)) M else Q (some (.int 0)) M := by
  simp only [e38_0, e38_1, e38_2, e38_4, e38_7, eq_self, kcat_nil, kcat_int, kcat_long, kcat_ref, kNL_int, kNL_ref, kNL_null, Option.toList_some, Option.toList_none, List.nil_append, List.cons_append, Nat.reduceAdd, Nat.reduceLeDiff, Nat.reduceEqDiff, true_and, and_true, true_or, or_true, false_or, or_false, ite_true, ite_false, x_isIn]
theorem x_perThousand {a b : Int32} {M : KMem} {Q : Option Value → KMem → Prop} : kE 43 0 [.int a, .int b] [] M Q = Q (some (.int (if b ≤ 0 then 0 else a * 1000 / b))) M := by
  simp only [e43_0, e43_1, e43_4, e43_5, e43_8, e43_9, e43_10, e43_11, e43_14, e43_15, eq_self, kcat_nil, kcat_int, kcat_long, kcat_ref, kNL_int, kNL_ref, kNL_null, Option.toList_some, Option.toList_none, List.nil_append, List.cons_append, Nat.reduceAdd, Nat.reduceLeDiff, Nat.reduceEqDiff, true_and, and_true, true_or, or_true, false_or, or_false, ite_true, ite_false]
  split
  · rfl
  · rename_i h
    have : ¬ b = 0 := fun q => h (by rw [q]; decide)
    simp only [this, not_false_eq_true, true_and]
/-- sums of a row -/
def ksum (f : Nat → Int32) : Nat → Int32
  | 0 => 0
  | n + 1 => ksum f n + f n
theorem kin_nI {j n : Nat} (h : j < n) (hn : n < 2 ^ 31) : kin (nI j) n = true := by
  simp only [kin, Bool.and_eq_true, decide_eq_true_eq]
  exact ⟨nI_pos (by omega), by rw [nI_clamp (by omega)]; exact h⟩
theorem nI_add1 (n : Nat) : nI n + 1 = nI (n + 1) := (nI_succ n).symm
theorem nI_le_iff {a b : Nat} (ha : a < 2 ^ 31) (hb : b < 2 ^ 31) : nI a ≤ nI b ↔ a ≤ b := by
  rw [Int32.le_iff_toInt_le, nI_toInt ha, nI_toInt hb]; omega
theorem nI_lt_iff {a b : Nat} (ha : a < 2 ^ 31) (hb : b < 2 ^ 31) : nI a < nI b ↔ a < b := by
  rw [Int32.lt_iff_toInt_lt, nI_toInt ha, nI_toInt hb]; omega
theorem nI_0' : nI 0 = 0 := rfl
theorem x_sumOf {k : Nat} {M : KMem} {Q : Option Value → KMem → Prop} (hk : kd k = 5) (hn : ln k < 2 ^ 31) : kE 40 0 [.ref k, .null, .null, .null, .null, .null] [] M Q = Q (some (.int (ksum (M k) (ln k)))) M := by
  have loop : ∀ d j, j + d = ln k → ∀ v5, kNL v5 = true → kE 40 10 [.ref k, .int (ksum (M k) j), .ref k, .int (nI (ln k)), .int (nI j), v5] [] M Q = Q (some (.int (ksum (M k) (ln k)))) M := by
    intro d
    induction d with
    | zero =>
      intro j hj v5 h5
      have : j = ln k := by omega
      subst this
      rw [e40_10]
      simp only [e40_0, e40_1, e40_2, e40_3, e40_4, e40_5, e40_6, e40_7, e40_8, e40_12, e40_13, e40_16, e40_17, e40_19, e40_20, e40_22, e40_23, e40_25, e40_26, e40_27, e40_30, e40_33, e40_34, eq_self, kcat_nil, kcat_int, kcat_long, kcat_ref, kNL_int, kNL_ref, kNL_null, Option.toList_some, Option.toList_none, List.nil_append, List.cons_append, Nat.reduceAdd, Nat.reduceLeDiff, Nat.reduceEqDiff, true_and, and_true, true_or, or_true, false_or, or_false, ite_true, ite_false, nI_le_iff hn hn, Nat.le_refl, if_true]
    | succ d ih =>
      intro j hj v5 h5
      rw [← ih (j + 1) (by omega) (.int (M k j)) rfl]
      rw [e40_10]
      simp only [e40_0, e40_1, e40_2, e40_3, e40_4, e40_5, e40_6, e40_7, e40_8, e40_12, e40_13, e40_16, e40_17, e40_19, e40_20, e40_22, e40_23, e40_25, e40_26, e40_27, e40_30, e40_33, e40_34, eq_self, kcat_nil, kcat_int, kcat_long, kcat_ref, kNL_int, kNL_ref, kNL_null, Option.toList_some, Option.toList_none, List.nil_append, List.cons_append, Nat.reduceAdd, Nat.reduceLeDiff, Nat.reduceEqDiff, true_and, and_true, true_or, or_true, false_or, or_false, ite_true, ite_false, nI_le_iff hn (show j < 2 ^ 31 by omega), if_neg (show ¬ ln k ≤ j by omega), hk, kin_nI (show j < ln k by omega) hn, nI_clamp (show j < 2 ^ 31 by omega), nI_add1]
      rfl
  rw [← loop (ln k) 0 (by omega) .null rfl]
  simp only [e40_0, e40_1, e40_2, e40_3, e40_4, e40_5, e40_6, e40_7, e40_8, e40_12, e40_13, e40_16, e40_17, e40_19, e40_20, e40_22, e40_23, e40_25, e40_26, e40_27, e40_30, e40_33, e40_34, eq_self, kcat_nil, kcat_int, kcat_long, kcat_ref, kNL_int, kNL_ref, kNL_null, Option.toList_some, Option.toList_none, List.nil_append, List.cons_append, Nat.reduceAdd, Nat.reduceLeDiff, Nat.reduceEqDiff, true_and, and_true, true_or, or_true, false_or, or_false, ite_true, ite_false, hk, nI_0', ksum]
