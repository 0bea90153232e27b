/-! State's other methods -/
def endsN (p : NR) : NR := fun i => if 49 ≤ i ∧ i < 137 then 0 else p i
def begN (q : NR) (total : Nat) : NR := fun i => if i < 10 then 0 else if 53 ≤ i ∧ i < 63 then q (i - 53) else if i = 49 then 1 else if i = 50 then total else q i
def oddN (p : NR) : Nat → Nat
  | 0 => 0
  | k + 1 => oddN p k + p k % 2
def lftN (p : NR) (k : Nat) : Nat := p k / 2 + (if p k % 2 = 1 ∧ oddN p k % 2 = 0 then 1 else 0)
def divN (p : NR) (left : Bool) : NR := fun i => if i < 10 then (if left = true then lftN p i else p i - lftN p i) else if i < 20 then p i + (if left = true then p (i - 10) - lftN p (i - 10) else lftN p (i - 10)) else p i
def findN (p : NR) (a : Nat) : Nat → Nat → Nat
  | 0, _ => 99
  | d + 1, t => if p (25 + t) = a then t else findN p a d (t + 1)
def colN (p : NR) (f : Nat) : Nat := nsum (fun j => p (53 + 12 * (f + j) + 11)) (p 24 + 1 - f)
def keptN (p : NR) : Nat := nsum (fun t => sumN p (53 + 12 * t) + p (53 + 12 * t + 10) + p (53 + 12 * t + 11)) (p 24 + 1)
def lostN (p : NR) : Nat := p 50 - keptN p
def passN (p : NR) (t : Nat) : Nat := colN p (t + 1) * 1000 / colN p 0
theorem nsum_block (f : Nat → Nat) (n : Nat) : nsum f (12 * n) = nsum (fun t => nsum (fun k => f (12 * t + k)) 12) n := by
  induction n with
  | zero => rfl
  | succ n ih =>
    rw [Nat.mul_succ, nsum_split, ih]
    rfl
theorem tot_block (p : NR) : totN p = nsum (fun t => sumN p (53 + 12 * t) + p (53 + 12 * t + 10) + p (53 + 12 * t + 11)) 7 := by
  unfold totN
  rw [show (84 : Nat) = 12 * 7 from rfl, nsum_block]
  apply nsum_congr
  intro t _
  unfold sumN
  rw [nsum_congr (f := fun k => p (53 + 12 * t + k)) (g := fun k => p (53 + (12 * t + k))) (n := 10) (fun k _ => by rw [Nat.add_assoc])]
  show nsum (fun k => p (53 + (12 * t + k))) 10 + p (53 + (12 * t + 10)) + p (53 + (12 * t + 11)) = _
  rw [← Nat.add_assoc 53, ← Nat.add_assoc 53]
theorem kept_le {p : NR} (h : p 24 ≤ 6) : keptN p ≤ totN p := by
  rw [tot_block]
  exact nsum_le_n (by omega)
theorem col_le {p : NR} {f : Nat} (h : p 24 ≤ 6) : colN p f ≤ totN p := by
  unfold colN
  refine Nat.le_trans ?_ (Nat.le_trans (nsum_le_n (f := fun t => p (53 + 12 * t + 11)) (show p 24 + 1 ≤ 7 by omega)) ?_)
  · by_cases hf : f ≤ p 24 + 1
    · have := nsum_split (fun t => p (53 + 12 * t + 11)) f (p 24 + 1 - f)
      rw [show f + (p 24 + 1 - f) = p 24 + 1 from by omega] at this
      omega
    · rw [show p 24 + 1 - f = 0 from by omega]
      exact Nat.zero_le _
  · rw [tot_block]
    exact nsum_mono (fun k _ => by omega)
theorem x_isTray {o : Nat} {t : Int32} {M : KMem} {Q : Option Value → KMem → Prop} (ho : isSt o) : kE 9 0 [.ref o, .int t] [] M Q = if 0 ≤ t ∧ t ≤ M o 5 then Q (some (.int 1)) M else Q (some (.int 0)) M := by
  simp only [e9_0, e9_1, e9_2, e9_3, e9_6, e9_9, eq_self, kcat_nil, kcat_int, kcat_long, kcat_ref, kNL_int, kNL_ref, kNL_null, Option.toList_some, Option.toList_none, List.nil_append, List.cons_append, Nat.reduceAdd, Nat.reduceLeDiff, Nat.reduceEqDiff, true_and, and_true, true_or, or_true, false_or, or_false, ite_true, ite_false, kd_o ho, x_isIn]
theorem x_isSieve {o : Nat} {t : Int32} {M : KMem} {Q : Option Value → KMem → Prop} (ho : isSt o) : kE 10 0 [.ref o, .int t] [] M Q = if 0 ≤ t ∧ t ≤ M o 5 - 1 then Q (some (.int 1)) M else Q (some (.int 0)) M := by
  simp only [e10_0, e10_1, e10_2, e10_3, e10_6, e10_7, e10_8, e10_11, eq_self, kcat_nil, kcat_int, kcat_long, kcat_ref, kNL_int, kNL_ref, kNL_null, Option.toList_some, Option.toList_none, List.nil_append, List.cons_append, Nat.reduceAdd, Nat.reduceLeDiff, Nat.reduceEqDiff, true_and, and_true, true_or, or_true, false_or, or_false, ite_true, ite_false, kd_o ho, x_isIn]
theorem x_collectedFrom {o f : Nat} {M : KMem} {p : NR} {Q : Option Value → KMem → Prop} (ho : isSt o) (hR : StR o M (nr p)) (hn : p 24 ≤ 6) (hf : f ≤ p 24 + 1) : kE 21 0 [.ref o, .int (nI f), .null, .null] [] M Q = Q (some (.int (nI (colN p f)))) M := by
  have e24 : M o 5 = nI (p 24) := hR.f24
  have loop : ∀ d j, f ≤ j → j + d = p 24 + 1 → kE 21 4 [.ref o, .int (nI f), .int (nI (nsum (fun i => p (53 + 12 * (f + i) + 11)) (j - f))), .int (nI j)] [] M Q = Q (some (.int (nI (colN p f)))) M := by
    intro d
    induction d with
    | zero =>
      intro j hfj hj
      have hlt : nI (p 24) < nI j := (nI_lt_iff (by omega) (by omega)).mpr (by omega)
      have : j = p 24 + 1 := by omega
      rw [e21_4]
      simp only [e21_0, e21_1, e21_2, e21_3, e21_5, e21_6, e21_9, e21_12, e21_13, e21_14, e21_17, e21_18, e21_19, e21_22, e21_23, e21_24, e21_27, e21_30, e21_31, eq_self, kcat_nil, kcat_int, kcat_long, kcat_ref, kNL_int, kNL_ref, kNL_null, Option.toList_some, Option.toList_none, List.nil_append, List.cons_append, Nat.reduceAdd, Nat.reduceLeDiff, Nat.reduceEqDiff, true_and, and_true, true_or, or_true, false_or, or_false, ite_true, ite_false, kd_o ho, e24, hlt]
      rw [this]
      rfl
    | succ d ih =>
      intro j hfj hj
      have hlt : ¬ nI (p 24) < nI j := nI_nlt (by omega) (by omega)
      have ec : M (o + 6 + 2 * j) 3 = nI (p (53 + 12 * (f + (j - f)) + 11)) := by
        rw [hR.co (by omega), show f + (j - f) = j from by omega]; rfl
      rw [← ih (j + 1) (by omega) (by omega), e21_4]
      simp only [e21_0, e21_1, e21_2, e21_3, e21_5, e21_6, e21_9, e21_12, e21_13, e21_14, e21_17, e21_18, e21_19, e21_22, e21_23, e21_24, e21_27, e21_30, e21_31, eq_self, kcat_nil, kcat_int, kcat_long, kcat_ref, kNL_int, kNL_ref, kNL_null, Option.toList_some, Option.toList_none, List.nil_append, List.cons_append, Nat.reduceAdd, Nat.reduceLeDiff, Nat.reduceEqDiff, true_and, and_true, true_or, or_true, false_or, or_false, ite_true, ite_false, kd_o ho, e24, hlt, rf_o2 ho, kd_o3 ho, ln_o3 ho, kin_nI (show j < 7 by omega) (by decide), nI_clamp (show j < 2 ^ 31 by omega), rf_tr ho, kd_tr ho (show j < 7 by omega), nI_add1, ec, nI_add]
      rw [show j + 1 - f = (j - f) + 1 from by omega, nsum]
  rw [← loop (p 24 + 1 - f) f (Nat.le_refl _) (by omega), Nat.sub_self]
  simp only [e21_0, e21_1, e21_2, e21_3, e21_5, e21_6, e21_9, e21_12, e21_13, e21_14, e21_17, e21_18, e21_19, e21_22, e21_23, e21_24, e21_27, e21_30, e21_31, eq_self, kcat_nil, kcat_int, kcat_long, kcat_ref, kNL_int, kNL_ref, kNL_null, Option.toList_some, Option.toList_none, List.nil_append, List.cons_append, Nat.reduceAdd, Nat.reduceLeDiff, Nat.reduceEqDiff, true_and, and_true, true_or, or_true, false_or, or_false, ite_true, ite_false, nI_0', nsum]
theorem x_hasCollected {o : Nat} {M : KMem} {p : NR} {Q : Option Value → KMem → Prop} (ho : isSt o) (hR : StR o M (nr p)) (hn : p 24 ≤ 6) (h49 : p 49 ≤ 1) (htot : totN p ≤ 99990) : kE 19 0 [.ref o] [] M Q = if p 49 = 1 ∧ 0 < colN p 0 then Q (some (.int 1)) M else Q (some (.int 0)) M := by
  have e49 : M o 10 = nI (p 49) := hR.f49
  have hc := col_le (f := 0) hn
  have hx : ∀ Q', kE 21 0 [.ref o, .int 0, .null, .null] [] M Q' = Q' (some (.int (nI (colN p 0)))) M := fun Q' => x_collectedFrom (f := 0) ho hR hn (by omega)
  simp only [e19_0, e19_1, e19_4, e19_7, e19_8, e19_9, e19_12, e19_15, e19_16, e19_19, e19_20, eq_self, kcat_nil, kcat_int, kcat_long, kcat_ref, kNL_int, kNL_ref, kNL_null, Option.toList_some, Option.toList_none, List.nil_append, List.cons_append, Nat.reduceAdd, Nat.reduceLeDiff, Nat.reduceEqDiff, true_and, and_true, true_or, or_true, false_or, or_false, ite_true, ite_false, kd_o ho, e49, hx]
  have z1 : (nI (p 49) = 0) ↔ p 49 = 0 := nI_eq_iff (b := 0) (by omega) (by decide)
  have z2 : (nI (colN p 0) = 0) ↔ colN p 0 = 0 := nI_eq_iff (b := 0) (by omega) (by decide)
  simp only [z1, z2]
  by_cases h1 : p 49 = 0
  · rw [if_pos h1, if_neg (by omega)]
  · rw [if_neg h1]
    by_cases h2 : colN p 0 = 0
    · rw [if_pos h2, if_neg (by omega)]
    · rw [if_neg h2, if_pos (by omega)]
theorem x_passingOf {o t : Nat} {M : KMem} {p : NR} {Q : Option Value → KMem → Prop} (ho : isSt o) (hR : StR o M (nr p)) (hn : p 24 ≤ 6) (ht : t < p 24) (htot : totN p ≤ 99990) (hc : 0 < colN p 0) : kE 20 0 [.ref o, .int (nI t)] [] M Q = Q (some (.int (nI (passN p t)))) M := by
  have hx : ∀ Q', kE 21 0 [.ref o, .int 0, .null, .null] [] M Q' = Q' (some (.int (nI (colN p 0)))) M := fun Q' => x_collectedFrom (f := 0) ho hR hn (by omega)
  have hy : ∀ Q', kE 21 0 [.ref o, .int (nI (t + 1)), .null, .null] [] M Q' = Q' (some (.int (nI (colN p (t + 1))))) M := fun Q' => x_collectedFrom (f := t + 1) ho hR hn (by omega)
  have h0 := col_le (f := 0) hn
  have h1 := col_le (f := t + 1) hn
  have hz : ¬ nI (colN p 0) ≤ 0 := by rw [show (0 : Int32) = nI 0 from rfl, nI_le_iff (by omega) (by decide)]; omega
  simp only [e20_0, e20_1, e20_2, e20_3, e20_4, e20_7, e20_8, e20_9, e20_12, e20_15, eq_self, kcat_nil, kcat_int, kcat_long, kcat_ref, kNL_int, kNL_ref, kNL_null, Option.toList_some, Option.toList_none, List.nil_append, List.cons_append, Nat.reduceAdd, Nat.reduceLeDiff, Nat.reduceEqDiff, true_and, and_true, true_or, or_true, false_or, or_false, ite_true, ite_false, kd_o ho, nI_add1, hx, hy, x_perThousand, hz]
  rw [show (1000 : Int32) = nI 1000 from rfl, pk_mul, pk_div (by omega) hc (by omega)]
  rfl
theorem x_lostMass {o : Nat} {M : KMem} {p : NR} {Q : Option Value → KMem → Prop} (ho : isSt o) (hR : StR o M (nr p)) (hn : p 24 ≤ 6) (htot : totN p ≤ p 50) : kE 18 0 [.ref o, .null, .null, .null] [] M Q = Q (some (.int (nI (lostN p)))) M := by
  have e24 : M o 5 = nI (p 24) := hR.f24
  have e50 : M o 11 = nI (p 50) := hR.f50
  have hkept := kept_le hn
  have loop : ∀ d j, j + d = p 24 + 1 → ∀ v3, kNL v3 = true → kE 18 4 [.ref o, .int (nI (nsum (fun t => sumN p (53 + 12 * t) + p (53 + 12 * t + 10) + p (53 + 12 * t + 11)) j)), .int (nI j), v3] [] M Q = Q (some (.int (nI (lostN p)))) M := by
    intro d
    induction d with
    | zero =>
      intro j hj v3 h3
      have hlt : nI (p 24) < nI j := (nI_lt_iff (by omega) (by omega)).mpr (by omega)
      have : j = p 24 + 1 := by omega
      rw [e18_4]
      simp only [e18_0, e18_1, e18_2, e18_3, e18_5, e18_6, e18_9, e18_12, e18_13, e18_16, e18_17, e18_18, e18_19, e18_20, e18_21, e18_24, e18_27, e18_28, e18_31, e18_32, e18_33, e18_36, e18_37, e18_38, e18_39, e18_42, e18_45, e18_46, e18_49, e18_50, e18_51, eq_self, kcat_nil, kcat_int, kcat_long, kcat_ref, kNL_int, kNL_ref, kNL_null, Option.toList_some, Option.toList_none, List.nil_append, List.cons_append, Nat.reduceAdd, Nat.reduceLeDiff, Nat.reduceEqDiff, true_and, and_true, true_or, or_true, false_or, or_false, ite_true, ite_false, kd_o ho, e24, e50, hlt]
      rw [this]
      show Q (some (.int (nI (p 50) - nI (keptN p)))) M = _
      rw [pk_sub (show keptN p ≤ p 50 by omega)]
      rfl
    | succ d ih =>
      intro j hj v3 h3
      have hlt : ¬ nI (p 24) < nI j := nI_nlt (by omega) (by omega)
      have ec : M (o + 6 + 2 * j) 3 = nI (p (53 + 12 * j + 11)) := by rw [hR.co (by omega)]; rfl
      have es : M (o + 6 + 2 * j) 2 = nI (p (53 + 12 * j + 10)) := by rw [hR.sk (by omega)]; rfl
      have el : ksum (M (o + 7 + 2 * j)) 10 = nI (sumN p (53 + 12 * j)) := by
        rw [ksum_congr (g := fun k => nI (p (53 + 12 * j + k))) (fun k hk => by rw [hR.ly (by omega) hk]; rfl), ksum_nI]
        rfl
      rw [← ih (j + 1) (by omega) (.ref (o + 6 + 2 * j)) rfl, e18_4]
      simp only [e18_0, e18_1, e18_2, e18_3, e18_5, e18_6, e18_9, e18_12, e18_13, e18_16, e18_17, e18_18, e18_19, e18_20, e18_21, e18_24, e18_27, e18_28, e18_31, e18_32, e18_33, e18_36, e18_37, e18_38, e18_39, e18_42, e18_45, e18_46, e18_49, e18_50, e18_51, eq_self, kcat_nil, kcat_int, kcat_long, kcat_ref, kNL_int, kNL_ref, kNL_null, Option.toList_some, Option.toList_none, List.nil_append, List.cons_append, Nat.reduceAdd, Nat.reduceLeDiff, Nat.reduceEqDiff, true_and, and_true, true_or, or_true, false_or, or_false, ite_true, ite_false, kd_o ho, e24, hlt, rf_o2 ho, kd_o3 ho, ln_o3 ho, kin_nI (show j < 7 by omega) (by decide), nI_clamp (show j < 2 ^ 31 by omega), rf_tr ho, kd_tr ho (show j < 7 by omega), rf_ly ho (show j < 7 by omega), x_sumOf (kd_ly ho (show j < 7 by omega)) (show ln (o + 7 + 2 * j) < 2 ^ 31 by rw [ln_ly ho (by omega)]; decide), ln_ly ho (show j < 7 by omega), el, nI_add1, ec, es, nI_add, nsum]
  rw [← loop (p 24 + 1) 0 (by omega) .null rfl]
  simp only [e18_0, e18_1, e18_2, e18_3, e18_5, e18_6, e18_9, e18_12, e18_13, e18_16, e18_17, e18_18, e18_19, e18_20, e18_21, e18_24, e18_27, e18_28, e18_31, e18_32, e18_33, e18_36, e18_37, e18_38, e18_39, e18_42, e18_45, e18_46, e18_49, e18_50, e18_51, eq_self, kcat_nil, kcat_int, kcat_long, kcat_ref, kNL_int, kNL_ref, kNL_null, Option.toList_some, Option.toList_none, List.nil_append, List.cons_append, Nat.reduceAdd, Nat.reduceLeDiff, Nat.reduceEqDiff, true_and, and_true, true_or, or_true, false_or, or_false, ite_true, ite_false, nI_0', nsum]
theorem x_findSieve {o a : Nat} {M : KMem} {p : NR} {Q : Option Value → KMem → Prop} (ho : isSt o) (hR : StR o M (nr p)) (hn : p 24 ≤ 6) (ha : a ≤ 9) (hap : ∀ t, t < 6 → p (25 + t) ≤ 9) :
    kE 12 0 [.ref o, .int (nI a), .null] [] M Q = Q (some (.int (if findN p a (p 24) 0 = 99 then (-9) else nI (findN p a (p 24) 0)))) M := by
  have e24 : M o 5 = nI (p 24) := hR.f24
  have loop : ∀ d j, j + d = p 24 → kE 12 2 [.ref o, .int (nI a), .int (nI j)] [] M Q = Q (some (.int (if findN p a d j = 99 then (-9) else nI (findN p a d j)))) M := by
    intro d
    induction d with
    | zero =>
      intro j hj
      have hle : nI (p 24) ≤ nI j := nI_le (by omega) (by omega)
      rw [e12_2]
      simp only [e12_0, e12_1, e12_3, e12_4, e12_7, e12_10, e12_11, e12_14, e12_15, e12_16, e12_19, e12_20, e12_23, e12_24, e12_25, e12_28, e12_31, e12_33, eq_self, kcat_nil, kcat_int, kcat_long, kcat_ref, kNL_int, kNL_ref, kNL_null, Option.toList_some, Option.toList_none, List.nil_append, List.cons_append, Nat.reduceAdd, Nat.reduceLeDiff, Nat.reduceEqDiff, true_and, and_true, true_or, or_true, false_or, or_false, ite_true, ite_false, kd_o ho, e24, hle, findN]
    | succ d ih =>
      intro j hj
      have hle : ¬ nI (p 24) ≤ nI j := nI_ge (by omega) (by omega)
      have ea : M (o + 6 + 2 * j) 1 = nI (p (25 + j)) := by
        rw [hR.ap (by omega) (by show j < (nI (p 24)).toNatClampNeg; rw [nI_clamp (by omega)]; omega)]; rfl
      have hap' := hap j (by omega)
      have z : (nI (p (25 + j)) = nI a) ↔ p (25 + j) = a := nI_eq_iff (by omega) (by omega)
      rw [e12_2]
      simp only [e12_0, e12_1, e12_3, e12_4, e12_7, e12_10, e12_11, e12_14, e12_15, e12_16, e12_19, e12_20, e12_23, e12_24, e12_25, e12_28, e12_31, e12_33, eq_self, kcat_nil, kcat_int, kcat_long, kcat_ref, kNL_int, kNL_ref, kNL_null, Option.toList_some, Option.toList_none, List.nil_append, List.cons_append, Nat.reduceAdd, Nat.reduceLeDiff, Nat.reduceEqDiff, true_and, and_true, true_or, or_true, false_or, or_false, ite_true, ite_false, kd_o ho, e24, hle, rf_o2 ho, kd_o3 ho, ln_o3 ho, kin_nI (show j < 7 by omega) (by decide), nI_clamp (show j < 2 ^ 31 by omega), rf_tr ho, kd_tr ho (show j < 7 by omega), ea, z, nI_add1, findN]
      by_cases h : p (25 + j) = a
      · simp only [h, not_true_eq_false, if_true, if_false]
        rw [if_neg (by omega)]
      · simp only [h, not_false_eq_true, if_true, if_false]
        exact ih (j + 1) (by omega)
  rw [← loop (p 24) 0 (by omega)]
  simp only [e12_0, e12_1, e12_3, e12_4, e12_7, e12_10, e12_11, e12_14, e12_15, e12_16, e12_19, e12_20, e12_23, e12_24, e12_25, e12_28, e12_31, e12_33, eq_self, kcat_nil, kcat_int, kcat_long, kcat_ref, kNL_int, kNL_ref, kNL_null, Option.toList_some, Option.toList_none, List.nil_append, List.cons_append, Nat.reduceAdd, Nat.reduceLeDiff, Nat.reduceEqDiff, true_and, and_true, true_or, or_true, false_or, or_false, ite_true, ite_false, nI_0']
