/-! rows of ints, trays -/
def kclrN (M : KMem) (k n : Nat) : KMem := fun c => if c = k then (fun i => if i < n then 0 else M k i) else M c
theorem kclrN_off {M : KMem} {k n c : Nat} (h : c ≠ k) : kclrN M k n c = M c := if_neg h
theorem kclrN_on {M : KMem} {k n i : Nat} : kclrN M k n k i = if i < n then 0 else M k i := by unfold kclrN; rw [if_pos rfl]
theorem kclrN_0 (M : KMem) (k : Nat) : kclrN M k 0 = M := by
  funext c i
  unfold kclrN
  split
  · rename_i h; subst h; rfl
  · rfl
theorem kclrN_s (M : KMem) (k n : Nat) : mset (kclrN M k n) k n 0 = kclrN M k (n + 1) := by
  funext c i
  rw [mset_apply]
  by_cases hc : c = k
  · subst hc
    rw [kclrN_on, kclrN_on]
    by_cases hi : i = n
    · subst hi; simp
    · by_cases h2 : i < n
      · rw [if_neg (fun q => hi q.2), if_pos h2, if_pos (by omega)]
      · rw [if_neg (fun q => hi q.2), if_neg h2, if_neg (by omega)]
  · rw [if_neg (fun q => hc q.1), kclrN_off hc, kclrN_off hc]
theorem x_clearRow {k : Nat} {M : KMem} {Q : Option Value → KMem → Prop} (hk : kd k = 5) (hn : ln k < 2 ^ 31) : kE 41 0 [.ref k, .null] [] M Q = Q none (kclrN M k (ln k)) := by
  have loop : ∀ d j, j + d = ln k → kE 41 2 [.ref k, .int (nI j)] [] (kclrN M k j) Q = Q none (kclrN M k (ln k)) := by
    intro d
    induction d with
    | zero =>
      intro j hj
      have : j = ln k := by omega
      subst this
      rw [e41_2]
      simp only [e41_0, e41_1, e41_3, e41_4, e41_5, e41_8, e41_9, e41_10, e41_11, e41_12, e41_15, e41_18, eq_self, kcat_nil, kcat_int, kcat_long, kcat_ref, kNL_int, kNL_ref, kNL_null, Option.toList_some, Option.toList_none, List.nil_append, List.cons_append, Nat.reduceAdd, Nat.reduceLeDiff, Nat.reduceEqDiff, true_and, and_true, true_or, or_true, false_or, or_false, ite_true, ite_false, hk, nI_le_iff hn hn, Nat.le_refl, if_true]
    | succ d ih =>
      intro j hj
      rw [← ih (j + 1) (by omega), e41_2]
      simp only [e41_0, e41_1, e41_3, e41_4, e41_5, e41_8, e41_9, e41_10, e41_11, e41_12, e41_15, e41_18, eq_self, kcat_nil, kcat_int, kcat_long, kcat_ref, kNL_int, kNL_ref, kNL_null, Option.toList_some, Option.toList_none, List.nil_append, List.cons_append, Nat.reduceAdd, Nat.reduceLeDiff, Nat.reduceEqDiff, true_and, and_true, true_or, or_true, false_or, or_false, ite_true, ite_false, nI_le_iff hn (show j < 2 ^ 31 by omega), if_neg (show ¬ ln k ≤ j by omega), hk, kin_nI (show j < ln k by omega) hn, nI_clamp (show j < 2 ^ 31 by omega), nI_add1, kclrN_s]
  rw [← loop (ln k) 0 (by omega), kclrN_0]
  simp only [e41_0, e41_1, e41_3, e41_4, e41_5, e41_8, e41_9, e41_10, e41_11, e41_12, e41_15, e41_18, eq_self, kcat_nil, kcat_int, kcat_long, kcat_ref, kNL_int, kNL_ref, kNL_null, Option.toList_some, Option.toList_none, List.nil_append, List.cons_append, Nat.reduceAdd, Nat.reduceLeDiff, Nat.reduceEqDiff, true_and, and_true, true_or, or_true, false_or, or_false, ite_true, ite_false, nI_0']
theorem kcpy_off {M : KMem} {a sp b dp n c : Nat} (h : c ≠ b) : kcpy M a sp b dp n c = M c := if_neg h
theorem kcpy_on {M : KMem} {a b n i : Nat} : kcpy M a 0 b 0 n b i = if i < n then M a i else M b i := by
  unfold kcpy va_cpy
  rw [if_pos rfl]
  simp
theorem x_copyRow {a b n : Nat} {M : KMem} {Q : Option Value → KMem → Prop} (ha : kd a = 5) (hb : kd b = 5) (hna : ln a = n) (hnb : ln b = n) (hn : n < 2 ^ 31) : kE 42 0 [.ref a, .ref b] [] M Q = Q none (kcpy M a 0 b 0 n) := by
  have h0 : (0 : Int32).toNatClampNeg = 0 := rfl
  have hlt : ¬ nI n < 0 := nI_pos hn
  have h00 : ¬ (0 : Int32) < 0 := by decide
  simp only [e42_0, e42_1, e42_2, e42_3, e42_4, e42_5, e42_6, e42_7, e42_8, e42_11, e42_14, eq_self, kcat_nil, kcat_int, kcat_long, kcat_ref, kNL_int, kNL_ref, kNL_null, Option.toList_some, Option.toList_none, List.nil_append, List.cons_append, Nat.reduceAdd, Nat.reduceLeDiff, Nat.reduceEqDiff, true_and, and_true, true_or, or_true, false_or, or_false, ite_true, ite_false, ha, hb, hna, hnb, h0, hlt, nI_clamp hn, Nat.zero_add, Nat.le_refl, h00, not_false_eq_true, ite_self]
theorem x_throwAway {τ lam : Nat} {M : KMem} {Q : Option Value → KMem → Prop} (h1 : kd τ = 2) (h2 : rf τ 0 = lam) (h3 : kd lam = 5) (h4 : ln lam = 10) : kE 12 0 [.ref τ] [] M Q = Q none (mset (mset (kclrN M lam 10) τ 2 0) τ 3 0) := by
  simp only [e12_0, e12_1, e12_4, e12_7, e12_8, e12_9, e12_12, e12_13, e12_14, e12_17, eq_self, kcat_nil, kcat_int, kcat_long, kcat_ref, kNL_int, kNL_ref, kNL_null, Option.toList_some, Option.toList_none, List.nil_append, List.cons_append, Nat.reduceAdd, Nat.reduceLeDiff, Nat.reduceEqDiff, true_and, and_true, true_or, or_true, false_or, or_false, ite_true, ite_false, h1, h2, x_clearRow h3 (by rw [h4]; decide), h4]
theorem x_tcopy {τ lam σ mu : Nat} {M : KMem} {Q : Option Value → KMem → Prop} (h1 : kd τ = 2) (h2 : rf τ 0 = lam) (h3 : kd lam = 5) (h4 : ln lam = 10) (g1 : kd σ = 2) (g2 : rf σ 0 = mu) (g3 : kd mu = 5) (g4 : ln mu = 10) (hne : σ ≠ τ) :
    kE 11 0 [.ref τ, .ref σ] [] M Q = Q none (mset (mset (mset (kcpy M mu 0 lam 0 10) τ 1 (M σ 1)) τ 2 (M σ 2)) τ 3 (M σ 3)) := by
  have e1 : σ ≠ lam := fun q => by rw [← q, g1] at h3; cases h3
  simp only [e11_0, e11_1, e11_4, e11_5, e11_8, e11_11, e11_12, e11_13, e11_16, e11_19, e11_20, e11_21, e11_24, e11_27, e11_28, e11_29, e11_32, e11_35, eq_self, kcat_nil, kcat_int, kcat_long, kcat_ref, kNL_int, kNL_ref, kNL_null, Option.toList_some, Option.toList_none, List.nil_append, List.cons_append, Nat.reduceAdd, Nat.reduceLeDiff, Nat.reduceEqDiff, true_and, and_true, true_or, or_true, false_or, or_false, ite_true, ite_false, h1, h2, g1, g2, x_copyRow g3 h3 g4 h4 (by decide), mset_off hne, kcpy_off e1]
def xopen (stuck cap : Int32) : Int32 := if 100 < 1000 - (if cap ≤ 0 then 0 else stuck * 1000 / cap) then 1000 - (if cap ≤ 0 then 0 else stuck * 1000 / cap) else 100
theorem x_openness {τ : Nat} {cap : Int32} {M : KMem} {Q : Option Value → KMem → Prop} (h1 : kd τ = 2) : kE 13 0 [.ref τ, .int cap] [] M Q = Q (some (.int (xopen (M τ 2) cap))) M := by
  simp only [e13_0, e13_2, e13_5, e13_6, e13_9, e13_10, e13_13, e13_14, e13_17, eq_self, kcat_nil, kcat_int, kcat_long, kcat_ref, kNL_int, kNL_ref, kNL_null, Option.toList_some, Option.toList_none, List.nil_append, List.cons_append, Nat.reduceAdd, Nat.reduceLeDiff, Nat.reduceEqDiff, true_and, and_true, true_or, or_true, false_or, or_false, ite_true, ite_false, h1, x_perThousand, xopen]
def kease (x : Int32) : Int32 := if x = 1 then 300 else if x = 2 then 600 else 900
theorem x_easeOf {x : Int32} {M : KMem} {Q : Option Value → KMem → Prop} : kE 17 0 [.int x] [] M Q = Q (some (.int (kease x))) M := by
  simp only [e17_0, e17_1, e17_28, e17_31, e17_32, e17_35, e17_36, e17_39, eq_self, kcat_nil, kcat_int, kcat_long, kcat_ref, kNL_int, kNL_ref, kNL_null, Option.toList_some, Option.toList_none, List.nil_append, List.cons_append, Nat.reduceAdd, Nat.reduceLeDiff, Nat.reduceEqDiff, true_and, and_true, true_or, or_true, false_or, or_false, ite_true, ite_false, kease]
  split
  · rfl
  · split <;> rfl
def xfall (m op e : Int32) : Int32 := if m = 0 then 0 else (if m.toInt64 * op.toInt64 * e.toInt64 / 1000000 < 1 then 1 else m.toInt64 * op.toInt64 * e.toInt64 / 1000000 : Int64).toInt32
theorem x_fallingOf {m op e : Int32} {M : KMem} {Q : Option Value → KMem → Prop} : kE 16 0 [.int m, .int op, .int e] [] M Q = Q (some (.int (xfall m op e))) M := by
  have h : ¬ (1000000 : Int64) = 0 := by decide
  simp only [e16_0, e16_1, e16_4, e16_5, e16_6, e16_7, e16_8, e16_9, e16_10, e16_11, e16_12, e16_13, e16_14, e16_15, e16_18, e16_19, e16_22, e16_23, eq_self, kcat_nil, kcat_int, kcat_long, kcat_ref, kNL_int, kNL_ref, kNL_null, Option.toList_some, Option.toList_none, List.nil_append, List.cons_append, Nat.reduceAdd, Nat.reduceLeDiff, Nat.reduceEqDiff, true_and, and_true, true_or, or_true, false_or, or_false, ite_true, ite_false, xfall, h, not_false_eq_true]
  by_cases hm : m = 0
  · simp only [hm, not_true_eq_false, if_true, if_false]
  · simp only [hm, not_false_eq_true, if_true, if_false]
def kdr (M : KMem) (lam mu : Nat) (op : Int32) (A : Nat) : Nat → KMem
  | 0 => M
  | k + 1 => mset (mset (kdr M lam mu op A k) lam k (kdr M lam mu op A k lam k - xfall (kdr M lam mu op A k lam k) op (kease (nI A - nI k)))) mu k (kdr M lam mu op A k mu k + xfall (kdr M lam mu op A k lam k) op (kease (nI A - nI k)))
def kdf (M : KMem) (lam mu : Nat) (op : Int32) (A : Nat) : Nat → Int32
  | 0 => 0
  | k + 1 => kdf M lam mu op A k + xfall (kdr M lam mu op A k lam k) op (kease (nI A - nI k))
theorem kdr_off {M : KMem} {lam mu A : Nat} {op : Int32} {c : Nat} (h1 : c ≠ lam) (h2 : c ≠ mu) : ∀ k, kdr M lam mu op A k c = M c := by
  intro k
  induction k with
  | zero => rfl
  | succ k ih => rw [kdr, mset_off h2, mset_off h1, ih]
theorem x_dropOnto {τ lam σ mu A : Nat} {cap : Int32} {M : KMem} {Q : Option Value → KMem → Prop} (h1 : kd τ = 2) (h2 : rf τ 0 = lam) (h3 : kd lam = 5) (h4 : ln lam = 10) (g1 : kd σ = 2) (g2 : rf σ 0 = mu) (g3 : kd mu = 5) (g4 : ln mu = 10) (hne : lam ≠ mu) (hA : M τ 1 = nI A) (hA9 : A < 10) :
    kE 14 0 [.ref τ, .ref σ, .int cap, .null, .null, .null, .null] [] M Q = Q (some (.int (kdf M lam mu (xopen (M τ 2) cap) A A))) (kdr M lam mu (xopen (M τ 2) cap) A A) := by
  have e1 : τ ≠ lam := fun q => by rw [← q, h1] at h3; cases h3
  have e2 : τ ≠ mu := fun q => by rw [← q, h1] at g3; cases g3
  generalize hop : xopen (M τ 2) cap = op
  have loop : ∀ d j, j + d = A → ∀ v6, kNL v6 = true → kE 14 12 [.ref τ, .ref σ, .int cap, .int op, .int (kdf M lam mu op A j), .int (nI j), v6] [] (kdr M lam mu op A j) Q = Q (some (.int (kdf M lam mu op A A))) (kdr M lam mu op A A) := by
    intro d
    induction d with
    | zero =>
      intro j hj v6 h6
      have : j = A := by omega
      subst this
      rw [e14_12]
      simp only [e14_0, e14_1, e14_2, e14_5, e14_6, e14_7, e14_9, e14_10, e14_14, e14_15, e14_18, e14_21, e14_22, e14_25, e14_27, e14_28, e14_29, e14_30, e14_33, e14_35, e14_36, e14_39, e14_42, e14_44, e14_45, e14_48, e14_50, e14_51, e14_52, e14_54, e14_55, e14_56, e14_57, e14_60, e14_62, e14_63, e14_64, e14_66, e14_67, e14_68, e14_70, e14_72, e14_73, e14_75, e14_78, e14_81, e14_83, eq_self, kcat_nil, kcat_int, kcat_long, kcat_ref, kNL_int, kNL_ref, kNL_null, Option.toList_some, Option.toList_none, List.nil_append, List.cons_append, Nat.reduceAdd, Nat.reduceLeDiff, Nat.reduceEqDiff, true_and, and_true, true_or, or_true, false_or, or_false, ite_true, ite_false, h1, kdr_off e1 e2, hA, nI_le_iff (show j < 2 ^ 31 by omega) (show j < 2 ^ 31 by omega), Nat.le_refl, if_true]
    | succ d ih =>
      intro j hj v6 h6
      rw [← ih (j + 1) (by omega) (.int (xfall (kdr M lam mu op A j lam j) op (kease (nI A - nI j)))) rfl, e14_12]
      simp only [e14_0, e14_1, e14_2, e14_5, e14_6, e14_7, e14_9, e14_10, e14_14, e14_15, e14_18, e14_21, e14_22, e14_25, e14_27, e14_28, e14_29, e14_30, e14_33, e14_35, e14_36, e14_39, e14_42, e14_44, e14_45, e14_48, e14_50, e14_51, e14_52, e14_54, e14_55, e14_56, e14_57, e14_60, e14_62, e14_63, e14_64, e14_66, e14_67, e14_68, e14_70, e14_72, e14_73, e14_75, e14_78, e14_81, e14_83, eq_self, kcat_nil, kcat_int, kcat_long, kcat_ref, kNL_int, kNL_ref, kNL_null, Option.toList_some, Option.toList_none, List.nil_append, List.cons_append, Nat.reduceAdd, Nat.reduceLeDiff, Nat.reduceEqDiff, true_and, and_true, true_or, or_true, false_or, or_false, ite_true, ite_false, h1, h2, h3, h4, g1, g2, g3, g4, kdr_off e1 e2, hA, nI_le_iff (show A < 2 ^ 31 by omega) (show j < 2 ^ 31 by omega), if_neg (show ¬ A ≤ j by omega), kin_nI (show j < 10 by omega) (by decide), nI_clamp (show j < 2 ^ 31 by omega), nI_add1, x_easeOf, x_fallingOf, kdr, kdf, mset_off hne.symm]
  rw [← loop A 0 (by omega) .null rfl]
  simp only [e14_0, e14_1, e14_2, e14_5, e14_6, e14_7, e14_9, e14_10, e14_14, e14_15, e14_18, e14_21, e14_22, e14_25, e14_27, e14_28, e14_29, e14_30, e14_33, e14_35, e14_36, e14_39, e14_42, e14_44, e14_45, e14_48, e14_50, e14_51, e14_52, e14_54, e14_55, e14_56, e14_57, e14_60, e14_62, e14_63, e14_64, e14_66, e14_67, e14_68, e14_70, e14_72, e14_73, e14_75, e14_78, e14_81, e14_83, eq_self, kcat_nil, kcat_int, kcat_long, kcat_ref, kNL_int, kNL_ref, kNL_null, Option.toList_some, Option.toList_none, List.nil_append, List.cons_append, Nat.reduceAdd, Nat.reduceLeDiff, Nat.reduceEqDiff, true_and, and_true, true_or, or_true, false_or, or_false, ite_true, ite_false, h1, x_openness h1, hop, nI_0', kdr, kdf]
theorem x_blind {τ lam A : Nat} {B : Int32} {M : KMem} {Q : Option Value → KMem → Prop} (h1 : kd τ = 2) (h2 : rf τ 0 = lam) (h3 : kd lam = 5) (h4 : ln lam = 10) (hA : M τ 1 = nI A) (hA9 : A < 10) :
    kE 15 0 [.ref τ, .int B, .null] [] M Q = Q none (mset (mset M lam A (M lam A - M lam A * B / 1000)) τ 2 (M τ 2 + M lam A * B / 1000)) := by
  have e1 : τ ≠ lam := fun q => by rw [← q, h1] at h3; cases h3
  have h : ¬ (1000 : Int32) = 0 := by decide
  simp only [e15_0, e15_1, e15_4, e15_5, e15_8, e15_9, e15_10, e15_11, e15_14, e15_15, e15_16, e15_17, e15_20, e15_21, e15_24, e15_25, e15_26, e15_27, e15_28, e15_29, e15_30, e15_30r, e15_31, e15_34, e15_35, e15_36, e15_39, eq_self, kcat_nil, kcat_int, kcat_long, kcat_ref, kNL_int, kNL_ref, kNL_null, Option.toList_some, Option.toList_none, List.nil_append, List.cons_append, Nat.reduceAdd, Nat.reduceLeDiff, Nat.reduceEqDiff, true_and, and_true, true_or, or_true, false_or, or_false, ite_true, ite_false, h1, h2, h3, h4, hA, kin_nI (show A < 10 by omega) (by decide), nI_clamp (show A < 2 ^ 31 by omega), mset_off e1, h, not_false_eq_true]
