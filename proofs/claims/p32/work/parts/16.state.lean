/-! State's other methods -/
def endsN (p : NR) : NR := fun i => if 49 ≤ i ∧ i < 137 then 0 else p i
def begN (q : NR) (total : Nat) : NR := fun i => if i < 10 then 0 else if 53 ≤ i ∧ i < 63 then q (i - 53) else if i = 49 then 1 else if i = 50 then total else q i
def oddN (p : NR) : Nat → Nat
  | 0 => 0
  | k + 1 => oddN p k + p k % 2
def lftN (p : NR) (k : Nat) : Nat := p k / 2 + (if p k % 2 = 1 ∧ oddN p k % 2 = 0 then 1 else 0)
def divN (p : NR) (left : Bool) : NR := fun i => if i < 10 then (if left = true then lftN p i else p i - lftN p i) else if i < 20 then p i + (if left = true then p (i - 10) - lftN p (i - 10) else lftN p (i - 10)) else p i
def findN (p : NR) (a : Nat) : Nat → Nat → Nat
  | 0, _ => 99
  | d + 1, t => if p (25 + t) = a then t else findN p a d (t + 1)
def colN (p : NR) (f : Nat) : Nat := nsum (fun j => p (53 + 12 * (f + j) + 11)) (p 24 + 1 - f)
def keptN (p : NR) : Nat := nsum (fun t => sumN p (53 + 12 * t) + p (53 + 12 * t + 10) + p (53 + 12 * t + 11)) (p 24 + 1)
def lostN (p : NR) : Nat := p 50 - keptN p
def passN (p : NR) (t : Nat) : Nat := colN p (t + 1) * 1000 / colN p 0
theorem nsum_block (f : Nat → Nat) (n : Nat) : nsum f (12 * n) = nsum (fun t => nsum (fun k => f (12 * t + k)) 12) n := by
  induction n with
  | zero => rfl
  | succ n ih =>
    rw [Nat.mul_succ, nsum_split, ih]
    rfl
theorem tot_block (p : NR) : totN p = nsum (fun t => sumN p (53 + 12 * t) + p (53 + 12 * t + 10) + p (53 + 12 * t + 11)) 7 := by
  unfold totN
  rw [show (84 : Nat) = 12 * 7 from rfl, nsum_block]
  apply nsum_congr
  intro t _
  unfold sumN
  rw [nsum_congr (f := fun k => p (53 + 12 * t + k)) (g := fun k => p (53 + (12 * t + k))) (n := 10) (fun k _ => by rw [Nat.add_assoc])]
  show nsum (fun k => p (53 + (12 * t + k))) 10 + p (53 + (12 * t + 10)) + p (53 + (12 * t + 11)) = _
  rw [← Nat.add_assoc 53, ← Nat.add_assoc 53]
theorem kept_le {p : NR} (h : p 24 ≤ 6) : keptN p ≤ totN p := by
  rw [tot_block]
  exact nsum_le_n (by omega)
theorem col_le {p : NR} {f : Nat} (h : p 24 ≤ 6) : colN p f ≤ totN p := by
  unfold colN
  refine Nat.le_trans ?_ (Nat.le_trans (nsum_le_n (f := fun t => p (53 + 12 * t + 11)) (show p 24 + 1 ≤ 7 by omega)) ?_)
  · by_cases hf : f ≤ p 24 + 1
    · have := nsum_split (fun t => p (53 + 12 * t + 11)) f (p 24 + 1 - f)
      rw [show f + (p 24 + 1 - f) = p 24 + 1 from by omega] at this
      omega
    · rw [show p 24 + 1 - f = 0 from by omega]
      exact Nat.zero_le _
  · rw [tot_block]
    exact nsum_mono (fun k _ => by omega)
theorem x_isTray {o : Nat} {t : Int32} {M : KMem} {Q : Option Value → KMem → Prop} (ho : isSt o) : kE 1 0 [.ref o, .int t] [] M Q = if 0 ≤ t ∧ t ≤ M o 5 then Q (some (.int 1)) M else Q (some (.int 0)) M := by
  simp only [e1_0, e1_1, e1_2, e1_3, e1_6, e1_9, eq_self, kcat_nil, kcat_int, kcat_long, kcat_ref, kNL_int, kNL_ref, kNL_null, Option.toList_some, Option.toList_none, List.nil_append, List.cons_append, Nat.reduceAdd, Nat.reduceLeDiff, Nat.reduceEqDiff, true_and, and_true, true_or, or_true, false_or, or_false, ite_true, ite_false, kd_o ho, x_isIn]
theorem x_isSieve {o : Nat} {t : Int32} {M : KMem} {Q : Option Value → KMem → Prop} (ho : isSt o) : kE 2 0 [.ref o, .int t] [] M Q = if 0 ≤ t ∧ t ≤ M o 5 - 1 then Q (some (.int 1)) M else Q (some (.int 0)) M := by
  simp only [e2_0, e2_1, e2_2, e2_3, e2_6, e2_7, e2_8, e2_11, eq_self, kcat_nil, kcat_int, kcat_long, kcat_ref, kNL_int, kNL_ref, kNL_null, Option.toList_some, Option.toList_none, List.nil_append, List.cons_append, Nat.reduceAdd, Nat.reduceLeDiff, Nat.reduceEqDiff, true_and, and_true, true_or, or_true, false_or, or_false, ite_true, ite_false, kd_o ho, x_isIn]
theorem x_lostMass {o : Nat} {M : KMem} {p : NR} {Q : Option Value → KMem → Prop} (ho : isSt o) (hR : StR o M (nr p)) (hn : p 24 ≤ 6) (htot : totN p ≤ p 50) : kE 10 0 [.ref o, .null, .null, .null] [] M Q = Q (some (.int (nI (lostN p)))) M := by
  have e24 : M o 5 = nI (p 24) := hR.f24
  have e50 : M o 11 = nI (p 50) := hR.f50
  have hkept := kept_le hn
  have loop : ∀ d j, j + d = p 24 + 1 → ∀ v3, kNL v3 = true → kE 10 4 [.ref o, .int (nI (nsum (fun t => sumN p (53 + 12 * t) + p (53 + 12 * t + 10) + p (53 + 12 * t + 11)) j)), .int (nI j), v3] [] M Q = Q (some (.int (nI (lostN p)))) M := by
    intro d
    induction d with
    | zero =>
      intro j hj v3 h3
      have hlt : nI (p 24) < nI j := (nI_lt_iff (by omega) (by omega)).mpr (by omega)
      have : j = p 24 + 1 := by omega
      rw [e10_4]
      simp only [e10_0, e10_1, e10_2, e10_3, e10_5, e10_6, e10_9, e10_12, e10_13, e10_16, e10_17, e10_18, e10_19, e10_20, e10_21, e10_24, e10_27, e10_28, e10_31, e10_32, e10_33, e10_36, e10_37, e10_38, e10_39, e10_42, e10_45, e10_46, e10_49, e10_50, e10_51, eq_self, kcat_nil, kcat_int, kcat_long, kcat_ref, kNL_int, kNL_ref, kNL_null, Option.toList_some, Option.toList_none, List.nil_append, List.cons_append, Nat.reduceAdd, Nat.reduceLeDiff, Nat.reduceEqDiff, true_and, and_true, true_or, or_true, false_or, or_false, ite_true, ite_false, kd_o ho, e24, e50, hlt]
      rw [this]
      show Q (some (.int (nI (p 50) - nI (keptN p)))) M = _
      rw [pk_sub (show keptN p ≤ p 50 by omega)]
      rfl
    | succ d ih =>
      intro j hj v3 h3
      have hlt : ¬ nI (p 24) < nI j := nI_nlt (by omega) (by omega)
      have ec : M (o + 6 + 2 * j) 3 = nI (p (53 + 12 * j + 11)) := by rw [hR.co (by omega)]; rfl
      have es : M (o + 6 + 2 * j) 2 = nI (p (53 + 12 * j + 10)) := by rw [hR.sk (by omega)]; rfl
      have el : ksum (M (o + 7 + 2 * j)) 10 = nI (sumN p (53 + 12 * j)) := by
        rw [ksum_congr (g := fun k => nI (p (53 + 12 * j + k))) (fun k hk => by rw [hR.ly (by omega) hk]; rfl), ksum_nI]
        rfl
      rw [← ih (j + 1) (by omega) (.ref (o + 6 + 2 * j)) rfl, e10_4]
      simp only [e10_0, e10_1, e10_2, e10_3, e10_5, e10_6, e10_9, e10_12, e10_13, e10_16, e10_17, e10_18, e10_19, e10_20, e10_21, e10_24, e10_27, e10_28, e10_31, e10_32, e10_33, e10_36, e10_37, e10_38, e10_39, e10_42, e10_45, e10_46, e10_49, e10_50, e10_51, eq_self, kcat_nil, kcat_int, kcat_long, kcat_ref, kNL_int, kNL_ref, kNL_null, Option.toList_some, Option.toList_none, List.nil_append, List.cons_append, Nat.reduceAdd, Nat.reduceLeDiff, Nat.reduceEqDiff, true_and, and_true, true_or, or_true, false_or, or_false, ite_true, ite_false, kd_o ho, e24, hlt, rf_o2 ho, kd_o3 ho, ln_o3 ho, kin_nI (show j < 7 by omega) (by decide), nI_clamp (show j < 2 ^ 31 by omega), rf_tr ho, kd_tr ho (show j < 7 by omega), rf_ly ho (show j < 7 by omega), x_sumOf (kd_ly ho (show j < 7 by omega)) (show ln (o + 7 + 2 * j) < 2 ^ 31 by rw [ln_ly ho (by omega)]; decide), ln_ly ho (show j < 7 by omega), el, nI_add1, ec, es, nI_add, nsum]
  rw [← loop (p 24 + 1) 0 (by omega) .null rfl]
  simp only [e10_0, e10_1, e10_2, e10_3, e10_5, e10_6, e10_9, e10_12, e10_13, e10_16, e10_17, e10_18, e10_19, e10_20, e10_21, e10_24, e10_27, e10_28, e10_31, e10_32, e10_33, e10_36, e10_37, e10_38, e10_39, e10_42, e10_45, e10_46, e10_49, e10_50, e10_51, eq_self, kcat_nil, kcat_int, kcat_long, kcat_ref, kNL_int, kNL_ref, kNL_null, Option.toList_some, Option.toList_none, List.nil_append, List.cons_append, Nat.reduceAdd, Nat.reduceLeDiff, Nat.reduceEqDiff, true_and, and_true, true_or, or_true, false_or, or_false, ite_true, ite_false, nI_0', nsum]
theorem x_findSieve {o a : Nat} {M : KMem} {p : NR} {Q : Option Value → KMem → Prop} (ho : isSt o) (hR : StR o M (nr p)) (hn : p 24 ≤ 6) (ha : a ≤ 9) (hap : ∀ t, t < 6 → p (25 + t) ≤ 9) :
    kE 4 0 [.ref o, .int (nI a), .null] [] M Q = Q (some (.int (if findN p a (p 24) 0 = 99 then (-9) else nI (findN p a (p 24) 0)))) M := by
  have e24 : M o 5 = nI (p 24) := hR.f24
  have loop : ∀ d j, j + d = p 24 → kE 4 2 [.ref o, .int (nI a), .int (nI j)] [] M Q = Q (some (.int (if findN p a d j = 99 then (-9) else nI (findN p a d j)))) M := by
    intro d
    induction d with
    | zero =>
      intro j hj
      have hle : nI (p 24) ≤ nI j := nI_le (by omega) (by omega)
      rw [e4_2]
      simp only [e4_0, e4_1, e4_3, e4_4, e4_7, e4_10, e4_11, e4_14, e4_15, e4_16, e4_19, e4_20, e4_23, e4_24, e4_25, e4_28, e4_31, e4_33, eq_self, kcat_nil, kcat_int, kcat_long, kcat_ref, kNL_int, kNL_ref, kNL_null, Option.toList_some, Option.toList_none, List.nil_append, List.cons_append, Nat.reduceAdd, Nat.reduceLeDiff, Nat.reduceEqDiff, true_and, and_true, true_or, or_true, false_or, or_false, ite_true, ite_false, kd_o ho, e24, hle, findN]
    | succ d ih =>
      intro j hj
      have hle : ¬ nI (p 24) ≤ nI j := nI_ge (by omega) (by omega)
      have ea : M (o + 6 + 2 * j) 1 = nI (p (25 + j)) := by
        rw [hR.ap (by omega) (by show j < (nI (p 24)).toNatClampNeg; rw [nI_clamp (by omega)]; omega)]; rfl
      have hap' := hap j (by omega)
      have z : (nI (p (25 + j)) = nI a) ↔ p (25 + j) = a := nI_eq_iff (by omega) (by omega)
      rw [e4_2]
      simp only [e4_0, e4_1, e4_3, e4_4, e4_7, e4_10, e4_11, e4_14, e4_15, e4_16, e4_19, e4_20, e4_23, e4_24, e4_25, e4_28, e4_31, e4_33, eq_self, kcat_nil, kcat_int, kcat_long, kcat_ref, kNL_int, kNL_ref, kNL_null, Option.toList_some, Option.toList_none, List.nil_append, List.cons_append, Nat.reduceAdd, Nat.reduceLeDiff, Nat.reduceEqDiff, true_and, and_true, true_or, or_true, false_or, or_false, ite_true, ite_false, kd_o ho, e24, hle, rf_o2 ho, kd_o3 ho, ln_o3 ho, kin_nI (show j < 7 by omega) (by decide), nI_clamp (show j < 2 ^ 31 by omega), rf_tr ho, kd_tr ho (show j < 7 by omega), ea, z, nI_add1, findN]
      by_cases h : p (25 + j) = a
      · simp only [h, not_true_eq_false, if_true, if_false]
        rw [if_neg (by omega)]
      · simp only [h, not_false_eq_true, if_true, if_false]
        exact ih (j + 1) (by omega)
  rw [← loop (p 24) 0 (by omega)]
  simp only [e4_0, e4_1, e4_3, e4_4, e4_7, e4_10, e4_11, e4_14, e4_15, e4_16, e4_19, e4_20, e4_23, e4_24, e4_25, e4_28, e4_31, e4_33, eq_self, kcat_nil, kcat_int, kcat_long, kcat_ref, kNL_int, kNL_ref, kNL_null, Option.toList_some, Option.toList_none, List.nil_append, List.cons_append, Nat.reduceAdd, Nat.reduceLeDiff, Nat.reduceEqDiff, true_and, and_true, true_or, or_true, false_or, or_false, ite_true, ite_false, nI_0']
