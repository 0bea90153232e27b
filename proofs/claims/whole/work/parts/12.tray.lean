/-! rows of ints, trays -/
def kclrN (M : KMem) (k n : Nat) : KMem := fun c => if c = k then (fun i => if i < n then 0 else M k i) else M c
theorem kclrN_off {M : KMem} {k n c : Nat} (h : c ≠ k) : kclrN M k n c = M c := if_neg h
theorem kclrN_on {M : KMem} {k n i : Nat} : kclrN M k n k i = if i < n then 0 else M k i := by unfold kclrN; rw [if_pos rfl]
theorem kclrN_0 (M : KMem) (k : Nat) : kclrN M k 0 = M := by
  funext c i
  unfold kclrN
  split
  · rename_i h; subst h; rfl
  · rfl
theorem kclrN_s (M : KMem) (k n : Nat) : mset (kclrN M k n) k n 0 = kclrN M k (n + 1) := by
  funext c i
  rw [mset_apply]
  by_cases hc : c = k
  · subst hc
    rw [kclrN_on, kclrN_on]
    by_cases hi : i = n
    · subst hi; simp
    · by_cases h2 : i < n
      · rw [if_neg (fun q => hi q.2), if_pos h2, if_pos (by omega)]
      · rw [if_neg (fun q => hi q.2), if_neg h2, if_neg (by omega)]
  · rw [if_neg (fun q => hc q.1), kclrN_off hc, kclrN_off hc]
theorem x_clearRow {k : Nat} {M : KMem} {Q : Option Value → KMem → Prop} (hk : kd k = 5) (hn : ln k < 2 ^ 31) : kE 63 0 [.ref k, .null] [] M Q = Q none (kclrN M k (ln k)) := by
  have loop : ∀ d j, j + d = ln k → kE 63 2 [.ref k, .int (nI j)] [] (kclrN M k j) Q = Q none (kclrN M k (ln k)) := by
    intro d
    induction d with
    | zero =>
      intro j hj
      have : j = ln k := by omega
      subst this
      rw [e63_2]
      simp only [e63_0, e63_1, e63_3, e63_4, e63_5, e63_8, e63_9, e63_10, e63_11, e63_12, e63_15, e63_18, eq_self, kcat_nil, kcat_int, kcat_long, kcat_ref, kNL_int, kNL_ref, kNL_null, Option.toList_some, Option.toList_none, List.nil_append, List.cons_append, Nat.reduceAdd, Nat.reduceLeDiff, Nat.reduceEqDiff, true_and, and_true, true_or, or_true, false_or, or_false, ite_true, ite_false, hk, nI_le_iff hn hn, Nat.le_refl, if_true]
    | succ d ih =>
      intro j hj
      rw [← ih (j + 1) (by omega), e63_2]
      simp only [e63_0, e63_1, e63_3, e63_4, e63_5, e63_8, e63_9, e63_10, e63_11, e63_12, e63_15, e63_18, eq_self, kcat_nil, kcat_int, kcat_long, kcat_ref, kNL_int, kNL_ref, kNL_null, Option.toList_some, Option.toList_none, List.nil_append, List.cons_append, Nat.reduceAdd, Nat.reduceLeDiff, Nat.reduceEqDiff, true_and, and_true, true_or, or_true, false_or, or_false, ite_true, ite_false, nI_le_iff hn (show j < 2 ^ 31 by omega), if_neg (show ¬ ln k ≤ j by omega), hk, kin_nI (show j < ln k by omega) hn, nI_clamp (show j < 2 ^ 31 by omega), nI_add1, kclrN_s]
  rw [← loop (ln k) 0 (by omega), kclrN_0]
  simp only [e63_0, e63_1, e63_3, e63_4, e63_5, e63_8, e63_9, e63_10, e63_11, e63_12, e63_15, e63_18, eq_self, kcat_nil, kcat_int, kcat_long, kcat_ref, kNL_int, kNL_ref, kNL_null, Option.toList_some, Option.toList_none, List.nil_append, List.cons_append, Nat.reduceAdd, Nat.reduceLeDiff, Nat.reduceEqDiff, true_and, and_true, true_or, or_true, false_or, or_false, ite_true, ite_false, nI_0']
theorem kcpy_off {M : KMem} {a sp b dp n c : Nat} (h : c ≠ b) : kcpy M a sp b dp n c = M c := if_neg h
theorem kcpy_on {M : KMem} {a b n i : Nat} : kcpy M a 0 b 0 n b i = if i < n then M a i else M b i := by
  unfold kcpy va_cpy
  rw [if_pos rfl]
  simp
theorem x_copyRow {a b n : Nat} {M : KMem} {Q : Option Value → KMem → Prop} (ha : kd a = 5) (hb : kd b = 5) (hna : ln a = n) (hnb : ln b = n) (hn : n < 2 ^ 31) : kE 64 0 [.ref a, .ref b] [] M Q = Q none (kcpy M a 0 b 0 n) := by
  have h0 : (0 : Int32).toNatClampNeg = 0 := rfl
  have hlt : ¬ nI n < 0 := nI_pos hn
  have h00 : ¬ (0 : Int32) < 0 := by decide
  simp only [e64_0, e64_1, e64_2, e64_3, e64_4, e64_5, e64_6, e64_7, e64_8, e64_11, e64_14, eq_self, kcat_nil, kcat_int, kcat_long, kcat_ref, kNL_int, kNL_ref, kNL_null, Option.toList_some, Option.toList_none, List.nil_append, List.cons_append, Nat.reduceAdd, Nat.reduceLeDiff, Nat.reduceEqDiff, true_and, and_true, true_or, or_true, false_or, or_false, ite_true, ite_false, ha, hb, hna, hnb, h0, hlt, nI_clamp hn, Nat.zero_add, Nat.le_refl, h00, not_false_eq_true, ite_self]
theorem x_throwAway {τ lam : Nat} {M : KMem} {Q : Option Value → KMem → Prop} (h1 : kd τ = 2) (h2 : rf τ 0 = lam) (h3 : kd lam = 5) (h4 : ln lam = 10) : kE 23 0 [.ref τ] [] M Q = Q none (mset (mset (kclrN M lam 10) τ 2 0) τ 3 0) := by
  simp only [e23_0, e23_1, e23_4, e23_7, e23_8, e23_9, e23_12, e23_13, e23_14, e23_17, eq_self, kcat_nil, kcat_int, kcat_long, kcat_ref, kNL_int, kNL_ref, kNL_null, Option.toList_some, Option.toList_none, List.nil_append, List.cons_append, Nat.reduceAdd, Nat.reduceLeDiff, Nat.reduceEqDiff, true_and, and_true, true_or, or_true, false_or, or_false, ite_true, ite_false, h1, h2, x_clearRow h3 (by rw [h4]; decide), h4]
theorem x_tcopy {τ lam σ mu : Nat} {M : KMem} {Q : Option Value → KMem → Prop} (h1 : kd τ = 2) (h2 : rf τ 0 = lam) (h3 : kd lam = 5) (h4 : ln lam = 10) (g1 : kd σ = 2) (g2 : rf σ 0 = mu) (g3 : kd mu = 5) (g4 : ln mu = 10) (hne : σ ≠ τ) :
    kE 22 0 [.ref τ, .ref σ] [] M Q = Q none (mset (mset (mset (kcpy M mu 0 lam 0 10) τ 1 (M σ 1)) τ 2 (M σ 2)) τ 3 (M σ 3)) := by
  have e1 : σ ≠ lam := fun q => by rw [← q, g1] at h3; cases h3
  simp only [e22_0, e22_1, e22_4, e22_5, e22_8, e22_11, e22_12, e22_13, e22_16, e22_19, e22_20, e22_21, e22_24, e22_27, e22_28, e22_29, e22_32, e22_35, eq_self, kcat_nil, kcat_int, kcat_long, kcat_ref, kNL_int, kNL_ref, kNL_null, Option.toList_some, Option.toList_none, List.nil_append, List.cons_append, Nat.reduceAdd, Nat.reduceLeDiff, Nat.reduceEqDiff, true_and, and_true, true_or, or_true, false_or, or_false, ite_true, ite_false, h1, h2, g1, g2, x_copyRow g3 h3 g4 h4 (by decide), mset_off hne, kcpy_off e1]
def xopen (stuck cap : Int32) : Int32 := if 100 < 1000 - (if cap ≤ 0 then 0 else stuck * 1000 / cap) then 1000 - (if cap ≤ 0 then 0 else stuck * 1000 / cap) else 100
theorem x_openness {τ : Nat} {cap : Int32} {M : KMem} {Q : Option Value → KMem → Prop} (h1 : kd τ = 2) : kE 24 0 [.ref τ, .int cap] [] M Q = Q (some (.int (xopen (M τ 2) cap))) M := by
  simp only [e24_0, e24_2, e24_5, e24_6, e24_9, e24_10, e24_13, e24_14, e24_17, eq_self, kcat_nil, kcat_int, kcat_long, kcat_ref, kNL_int, kNL_ref, kNL_null, Option.toList_some, Option.toList_none, List.nil_append, List.cons_append, Nat.reduceAdd, Nat.reduceLeDiff, Nat.reduceEqDiff, true_and, and_true, true_or, or_true, false_or, or_false, ite_true, ite_false, h1, x_perThousand, xopen]
def kease (x : Int32) : Int32 := if x = 1 then 300 else if x = 2 then 600 else 900
theorem x_easeOf {x : Int32} {M : KMem} {Q : Option Value → KMem → Prop} : kE 28 0 [.int x] [] M Q = Q (some (.int (kease x))) M := by
  simp only [e28_0, e28_1, e28_28, e28_31, e28_32, e28_35, e28_36, e28_39, eq_self, kcat_nil, kcat_int, kcat_long, kcat_ref, kNL_int, kNL_ref, kNL_null, Option.toList_some, Option.toList_none, List.nil_append, List.cons_append, Nat.reduceAdd, Nat.reduceLeDiff, Nat.reduceEqDiff, true_and, and_true, true_or, or_true, false_or, or_false, ite_true, ite_false, kease]
  split
  · rfl
  · split <;> rfl
def xfall (m op e : Int32) : Int32 := if m = 0 then 0 else (if m.toInt64 * op.toInt64 * e.toInt64 / 1000000 < 1 then 1 else m.toInt64 * op.toInt64 * e.toInt64 / 1000000 : Int64).toInt32
theorem x_fallingOf {m op e : Int32} {M : KMem} {Q : Option Value → KMem → Prop} : kE 27 0 [.int m, .int op, .int e] [] M Q = Q (some (.int (xfall m op e))) M := by
  have h : ¬ (1000000 : Int64) = 0 := by decide
  simp only [e27_0, e27_1, e27_4, e27_5, e27_6, e27_7, e27_8, e27_9, e27_10, e27_11, e27_12, e27_13, e27_14, e27_15, e27_18, e27_19, e27_22, e27_23, eq_self, kcat_nil, kcat_int, kcat_long, kcat_ref, kNL_int, kNL_ref, kNL_null, Option.toList_some, Option.toList_none, List.nil_append, List.cons_append, Nat.reduceAdd, Nat.reduceLeDiff, Nat.reduceEqDiff, true_and, and_true, true_or, or_true, false_or, or_false, ite_true, ite_false, xfall, h, not_false_eq_true]
  by_cases hm : m = 0
  · simp only [hm, not_true_eq_false, if_true, if_false]
  · simp only [hm, not_false_eq_true, if_true, if_false]
def kdr (M : KMem) (lam mu : Nat) (op : Int32) (A : Nat) : Nat → KMem
  | 0 => M
  | k + 1 => mset (mset (kdr M lam mu op A k) lam k (kdr M lam mu op A k lam k - xfall (kdr M lam mu op A k lam k) op (kease (nI A - nI k)))) mu k (kdr M lam mu op A k mu k + xfall (kdr M lam mu op A k lam k) op (kease (nI A - nI k)))
def kdf (M : KMem) (lam mu : Nat) (op : Int32) (A : Nat) : Nat → Int32
  | 0 => 0
  | k + 1 => kdf M lam mu op A k + xfall (kdr M lam mu op A k lam k) op (kease (nI A - nI k))
theorem kdr_off {M : KMem} {lam mu A : Nat} {op : Int32} {c : Nat} (h1 : c ≠ lam) (h2 : c ≠ mu) : ∀ k, kdr M lam mu op A k c = M c := by
  intro k
  induction k with
  | zero => rfl
  | succ k ih => rw [kdr, mset_off h2, mset_off h1, ih]
theorem x_dropOnto {τ lam σ mu A : Nat} {cap : Int32} {M : KMem} {Q : Option Value → KMem → Prop} (h1 : kd τ = 2) (h2 : rf τ 0 = lam) (h3 : kd lam = 5) (h4 : ln lam = 10) (g1 : kd σ = 2) (g2 : rf σ 0 = mu) (g3 : kd mu = 5) (g4 : ln mu = 10) (hne : lam ≠ mu) (hA : M τ 1 = nI A) (hA9 : A < 10) :
    kE 25 0 [.ref τ, .ref σ, .int cap, .null, .null, .null, .null] [] M Q = Q (some (.int (kdf M lam mu (xopen (M τ 2) cap) A A))) (kdr M lam mu (xopen (M τ 2) cap) A A) := by
  have e1 : τ ≠ lam := fun q => by rw [← q, h1] at h3; cases h3
  have e2 : τ ≠ mu := fun q => by rw [← q, h1] at g3; cases g3
  generalize hop : xopen (M τ 2) cap = op
  have loop : ∀ d j, j + d = A → ∀ v6, kNL v6 = true → kE 25 12 [.ref τ, .ref σ, .int cap, .int op, .int (kdf M lam mu op A j), .int (nI j), v6] [] (kdr M lam mu op A j) Q = Q (some (.int (kdf M lam mu op A A))) (kdr M lam mu op A A) := by
    intro d
    induction d with
    | zero =>
      intro j hj v6 h6
      have : j = A := by omega
      subst this
      rw [e25_12]
      simp only [e25_0, e25_1, e25_2, e25_5, e25_6, e25_7, e25_9, e25_10, e25_14, e25_15, e25_18, e25_21, e25_22, e25_25, e25_27, e25_28, e25_29, e25_30, e25_33, e25_35, e25_36, e25_39, e25_42, e25_44, e25_45, e25_48, e25_50, e25_51, e25_52, e25_54, e25_55, e25_56, e25_57, e25_60, e25_62, e25_63, e25_64, e25_66, e25_67, e25_68, e25_70, e25_72, e25_73, e25_75, e25_78, e25_81, e25_83, eq_self, kcat_nil, kcat_int, kcat_long, kcat_ref, kNL_int, kNL_ref, kNL_null, Option.toList_some, Option.toList_none, List.nil_append, List.cons_append, Nat.reduceAdd, Nat.reduceLeDiff, Nat.reduceEqDiff, true_and, and_true, true_or, or_true, false_or, or_false, ite_true, ite_false, h1, kdr_off e1 e2, hA, nI_le_iff (show j < 2 ^ 31 by omega) (show j < 2 ^ 31 by omega), Nat.le_refl, if_true]
    | succ d ih =>
      intro j hj v6 h6
      rw [← ih (j + 1) (by omega) (.int (xfall (kdr M lam mu op A j lam j) op (kease (nI A - nI j)))) rfl, e25_12]
      simp only [e25_0, e25_1, e25_2, e25_5, e25_6, e25_7, e25_9, e25_10, e25_14, e25_15, e25_18, e25_21, e25_22, e25_25, e25_27, e25_28, e25_29, e25_30, e25_33, e25_35, e25_36, e25_39, e25_42, e25_44, e25_45, e25_48, e25_50, e25_51, e25_52, e25_54, e25_55, e25_56, e25_57, e25_60, e25_62, e25_63, e25_64, e25_66, e25_67, e25_68, e25_70, e25_72, e25_73, e25_75, e25_78, e25_81, e25_83, eq_self, kcat_nil, kcat_int, kcat_long, kcat_ref, kNL_int, kNL_ref, kNL_null, Option.toList_some, Option.toList_none, List.nil_append, List.cons_append, Nat.reduceAdd, Nat.reduceLeDiff, Nat.reduceEqDiff, true_and, and_true, true_or, or_true, false_or, or_false, ite_true, ite_false, h1, h2, h3, h4, g1, g2, g3, g4, kdr_off e1 e2, hA, nI_le_iff (show A < 2 ^ 31 by omega) (show j < 2 ^ 31 by omega), if_neg (show ¬ A ≤ j by omega), kin_nI (show j < 10 by omega) (by decide), nI_clamp (show j < 2 ^ 31 by omega), nI_add1, x_easeOf, x_fallingOf, kdr, kdf, mset_off hne.symm]
  rw [← loop A 0 (by omega) .null rfl]
  simp only [e25_0, e25_1, e25_2, e25_5, e25_6, e25_7, e25_9, e25_10, e25_14, e25_15, e25_18, e25_21, e25_22, e25_25, e25_27, e25_28, e25_29, e25_30, e25_33, e25_35, e25_36, e25_39, e25_42, e25_44, e25_45, e25_48, e25_50, e25_51, e25_52, e25_54, e25_55, e25_56, e25_57, e25_60, e25_62, e25_63, e25_64, e25_66, e25_67, e25_68, e25_70, e25_72, e25_73, e25_75, e25_78, e25_81, e25_83, eq_self, kcat_nil, kcat_int, kcat_long, kcat_ref, kNL_int, kNL_ref, kNL_null, Option.toList_some, Option.toList_none, List.nil_append, List.cons_append, Nat.reduceAdd, Nat.reduceLeDiff, Nat.reduceEqDiff, true_and, and_true, true_or, or_true, false_or, or_false, ite_true, ite_false, h1, x_openness h1, hop, nI_0', kdr, kdf]
theorem x_blind {τ lam A : Nat} {B : Int32} {M : KMem} {Q : Option Value → KMem → Prop} (h1 : kd τ = 2) (h2 : rf τ 0 = lam) (h3 : kd lam = 5) (h4 : ln lam = 10) (hA : M τ 1 = nI A) (hA9 : A < 10) :
    kE 26 0 [.ref τ, .int B, .null] [] M Q = Q none (mset (mset M lam A (M lam A - M lam A * B / 1000)) τ 2 (M τ 2 + M lam A * B / 1000)) := by
  have e1 : τ ≠ lam := fun q => by rw [← q, h1] at h3; cases h3
  have h : ¬ (1000 : Int32) = 0 := by decide
  simp only [e26_0, e26_1, e26_4, e26_5, e26_8, e26_9, e26_10, e26_11, e26_14, e26_15, e26_16, e26_17, e26_20, e26_21, e26_24, e26_25, e26_26, e26_27, e26_28, e26_29, e26_30, e26_30r, e26_31, e26_34, e26_35, e26_36, e26_39, eq_self, kcat_nil, kcat_int, kcat_long, kcat_ref, kNL_int, kNL_ref, kNL_null, Option.toList_some, Option.toList_none, List.nil_append, List.cons_append, Nat.reduceAdd, Nat.reduceLeDiff, Nat.reduceEqDiff, true_and, and_true, true_or, or_true, false_or, or_false, ite_true, ite_false, h1, h2, h3, h4, hA, kin_nI (show A < 10 by omega) (by decide), nI_clamp (show A < 2 ^ 31 by omega), mset_off e1, h, not_false_eq_true]
