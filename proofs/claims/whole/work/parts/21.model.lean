/-! the reference's small methods -/
theorem li2 : (2 : Int32) = nI 2 := rfl
theorem li10 : (10 : Int32) = nI 10 := rfl
theorem li11 : (11 : Int32) = nI 11 := rfl
theorem li12 : (12 : Int32) = nI 12 := rfl
theorem li20 : (20 : Int32) = nI 20 := rfl
theorem li21 : (21 : Int32) = nI 21 := rfl
theorem li22 : (22 : Int32) = nI 22 := rfl
theorem li23 : (23 : Int32) = nI 23 := rfl
theorem li24 : (24 : Int32) = nI 24 := rfl
theorem li25 : (25 : Int32) = nI 25 := rfl
theorem li31 : (31 : Int32) = nI 31 := rfl
theorem li49 : (49 : Int32) = nI 49 := rfl
theorem li50 : (50 : Int32) = nI 50 := rfl
theorem li51 : (51 : Int32) = nI 51 := rfl
theorem li52 : (52 : Int32) = nI 52 := rfl
theorem li53 : (53 : Int32) = nI 53 := rfl
theorem li137 : (137 : Int32) = nI 137 := rfl
theorem li685 : (685 : Int32) = nI 685 := rfl
theorem li1000 : (1000 : Int32) = nI 1000 := rfl
theorem my1 : kd 166 = 4 := by decide
theorem my2 : rf 166 0 = 167 := by decide
theorem my3 : rf 166 1 = 168 := by decide
theorem my4 : rf 166 3 = 169 := by decide
theorem my5 : rf 166 5 = 170 := by decide
theorem my6 : rf 166 6 = 171 := by decide
theorem my7 : kd 167 = 5 := by decide
theorem my8 : kd 168 = 5 := by decide
theorem my9 : kd 169 = 8 := by decide
theorem my10 : kd 170 = 5 := by decide
theorem my11 : kd 171 = 5 := by decide
theorem my12 : ln 167 = 137 := by decide
theorem my13 : ln 168 = 822 := by decide
theorem my14 : ln 169 = 80 := by decide
theorem my15 : ln 170 = 137 := by decide
theorem my16 : ln 171 = 10 := by decide
theorem kinN {j n : Nat} (h : j < n ∧ n < 2 ^ 31) : kin (nI j) n = true := kin_nI h.1 h.2
theorem clN {n : Nat} (h : n < 2 ^ 31) : (nI n).toNatClampNeg = n := nI_clamp h
def RowM (M : KMem) (p : NR) : Prop := ∀ i, i < 137 → M 167 i = nI (p i)
def OffY (M M' : KMem) : Prop := ∀ c, c ≠ 167 → M' c = M c
theorem OffY.rfl' {M : KMem} : OffY M M := fun _ _ => rfl
theorem OffY.trans {M M' M'' : KMem} (h1 : OffY M M') (h2 : OffY M' M'') : OffY M M'' := fun c hc => (h2 c hc).trans (h1 c hc)
theorem OffY.set {M M' : KMem} (h : OffY M M') (i : Nat) (v : Int32) : OffY M (mset M' 167 i v) := fun c hc => by rw [mset_off hc]; exact h c hc
theorem RowM.set {M : KMem} {p : NR} (h : RowM M p) (i v : Nat) : RowM (mset M 167 i (nI v)) (nu p i v) := fun j hj => by
  by_cases hji : j = i
  · subst hji; rw [mset_eq, nu_eq]
  · rw [mset_ne (fun q => hji q.2), nu_ne hji]; exact h j hj
theorem RowM.congr {M : KMem} {p q : NR} (h : RowM M p) (e : ∀ i, i < 137 → q i = p i) : RowM M q := fun i hi => by rw [e i hi]; exact h i hi
theorem RowM.off {M M' : KMem} {p : NR} (h : RowM M p) (e : M' 167 = M 167) : RowM M' p := fun i hi => by rw [e]; exact h i hi
theorem y_at {t : Nat} {M : KMem} {Q : Option Value → KMem → Prop} : kE 84 0 [.ref 166, .int (nI t)] [] M Q = Q (some (.int (nI (53 + 12 * t)))) M := by
  simp only [e84_0, e84_2, e84_4, e84_5, e84_6, e84_7, eq_self, kcat_nil, kcat_int, kcat_long, kcat_ref, kNL_int, kNL_ref, kNL_null, Option.toList_some, Option.toList_none, List.nil_append, List.cons_append, Nat.reduceAdd, Nat.reduceLeDiff, Nat.reduceEqDiff, true_and, and_true, true_or, or_true, false_or, or_false, ite_true, ite_false, li53, li12, pk_mul, nI_add]
theorem y_sum {f : Nat} {M : KMem} {p : NR} {Q : Option Value → KMem → Prop} (hR : RowM M p) (hf : f + 10 ≤ 137) : kE 69 0 [.ref 166, .int (nI f), .null, .null] [] M Q = Q (some (.int (nI (sumN p f)))) M := by
  have loop : ∀ d j, j + d = 10 → kE 69 4 [.ref 166, .int (nI f), .int (nI (nsum (fun k => p (f + k)) j)), .int (nI j)] [] M Q = Q (some (.int (nI (sumN p f)))) M := by
    intro d
    induction d with
    | zero =>
      intro j hj
      have : j = 10 := by omega
      subst this
      have le : (10 : Int32) ≤ nI 10 := by decide
      rw [e69_4]
      simp only [e69_0, e69_1, e69_2, e69_3, e69_5, e69_7, e69_10, e69_11, e69_12, e69_15, e69_16, e69_17, e69_18, e69_19, e69_20, e69_21, e69_24, e69_27, e69_28, eq_self, kcat_nil, kcat_int, kcat_long, kcat_ref, kNL_int, kNL_ref, kNL_null, Option.toList_some, Option.toList_none, List.nil_append, List.cons_append, Nat.reduceAdd, Nat.reduceLeDiff, Nat.reduceEqDiff, true_and, and_true, true_or, or_true, false_or, or_false, ite_true, ite_false, le]
      rfl
    | succ d ih =>
      intro j hj
      have nle : ¬ (10 : Int32) ≤ nI j := by rw [li10]; exact nI_ge (by omega) (by decide)
      rw [← ih (j + 1) (by omega), e69_4]
      simp only [e69_0, e69_1, e69_2, e69_3, e69_5, e69_7, e69_10, e69_11, e69_12, e69_15, e69_16, e69_17, e69_18, e69_19, e69_20, e69_21, e69_24, e69_27, e69_28, eq_self, kcat_nil, kcat_int, kcat_long, kcat_ref, kNL_int, kNL_ref, kNL_null, Option.toList_some, Option.toList_none, List.nil_append, List.cons_append, Nat.reduceAdd, Nat.reduceLeDiff, Nat.reduceEqDiff, true_and, and_true, true_or, or_true, false_or, or_false, ite_true, ite_false, nle, my1, my2, my7, my12, nI_add, nI_add1, kin_nI (show f + j < 137 by omega) (by decide), clN (show f + j < 2 ^ 31 by omega), hR (f + j) (by omega), nsum]
  rw [← loop 10 0 rfl]
  simp only [e69_0, e69_1, e69_2, e69_3, e69_5, e69_7, e69_10, e69_11, e69_12, e69_15, e69_16, e69_17, e69_18, e69_19, e69_20, e69_21, e69_24, e69_27, e69_28, eq_self, kcat_nil, kcat_int, kcat_long, kcat_ref, kNL_int, kNL_ref, kNL_null, Option.toList_some, Option.toList_none, List.nil_append, List.cons_append, Nat.reduceAdd, Nat.reduceLeDiff, Nat.reduceEqDiff, true_and, and_true, true_or, or_true, false_or, or_false, ite_true, ite_false, nI_0', nsum]
theorem y_ends {M : KMem} {p : NR} {Q : Option Value → KMem → Prop} (hR : RowM M p) (hQ : ∀ M', RowM M' (endsN p) → OffY M M' → Q none M') : kE 86 0 [.ref 166, .null] [] M Q := by
  have loop : ∀ d j, j + d = 137 → 49 ≤ j → ∀ M1, RowM M1 (fun i => if 49 ≤ i ∧ i < j then 0 else p i) → OffY M M1 → kE 86 3 [.ref 166, .int (nI j)] [] M1 Q := by
    intro d
    induction d with
    | zero =>
      intro j hj h49 M1 h hO
      have : j = 137 := by omega
      subst this
      have le : (137 : Int32) ≤ nI 137 := by decide
      rw [e86_3]
      simp only [e86_0, e86_2, e86_4, e86_7, e86_10, e86_11, e86_14, e86_15, e86_16, e86_17, e86_20, e86_23, eq_self, kcat_nil, kcat_int, kcat_long, kcat_ref, kNL_int, kNL_ref, kNL_null, Option.toList_some, Option.toList_none, List.nil_append, List.cons_append, Nat.reduceAdd, Nat.reduceLeDiff, Nat.reduceEqDiff, true_and, and_true, true_or, or_true, false_or, or_false, ite_true, ite_false, le]
      exact hQ M1 h hO
    | succ d ih =>
      intro j hj h49 M1 h hO
      have nle : ¬ (137 : Int32) ≤ nI j := by rw [li137]; exact nI_ge (by omega) (by decide)
      rw [e86_3]
      simp only [e86_0, e86_2, e86_4, e86_7, e86_10, e86_11, e86_14, e86_15, e86_16, e86_17, e86_20, e86_23, eq_self, kcat_nil, kcat_int, kcat_long, kcat_ref, kNL_int, kNL_ref, kNL_null, Option.toList_some, Option.toList_none, List.nil_append, List.cons_append, Nat.reduceAdd, Nat.reduceLeDiff, Nat.reduceEqDiff, true_and, and_true, true_or, or_true, false_or, or_false, ite_true, ite_false, nle, my1, my2, my7, my12, nI_add1, kin_nI (show j < 137 by omega) (by decide), clN (show j < 2 ^ 31 by omega)]
      refine ih (j + 1) (by omega) (by omega) _ ((h.set j 0).congr (fun i _ => ?_)) (hO.set j _)
      unfold nu
      dsimp only
      by_cases h1 : i = j
      · rw [if_pos h1, if_pos (by omega)]
      · rw [if_neg h1]
        by_cases h2 : 49 ≤ i ∧ i < j
        · rw [if_pos h2, if_pos (by omega)]
        · rw [if_neg h2, if_neg (by omega)]
  simp only [e86_0, e86_2, e86_4, e86_7, e86_10, e86_11, e86_14, e86_15, e86_16, e86_17, e86_20, e86_23, eq_self, kcat_nil, kcat_int, kcat_long, kcat_ref, kNL_int, kNL_ref, kNL_null, Option.toList_some, Option.toList_none, List.nil_append, List.cons_append, Nat.reduceAdd, Nat.reduceLeDiff, Nat.reduceEqDiff, true_and, and_true, true_or, or_true, false_or, or_false, ite_true, ite_false]
  exact loop 88 49 rfl (by decide) M (hR.congr (fun i _ => if_neg (by omega))) OffY.rfl'
theorem y_trayWith {a : Nat} {M : KMem} {p : NR} {Q : Option Value → KMem → Prop} (hR : RowM M p) (hn : p 24 ≤ 6) (ha : a ≤ 9) (hap : ∀ t, t < 6 → p (25 + t) ≤ 9) :
    kE 85 0 [.ref 166, .int (nI a), .null] [] M Q = Q (some (.int (if findN p a (p 24) 0 = 99 then (-9) else nI (findN p a (p 24) 0)))) M := by
  have e24 : M 167 24 = nI (p 24) := hR 24 (by decide)
  have loop : ∀ d j, j + d = p 24 → kE 85 2 [.ref 166, .int (nI a), .int (nI j)] [] M Q = Q (some (.int (if findN p a d j = 99 then (-9) else nI (findN p a d j)))) M := by
    intro d
    induction d with
    | zero =>
      intro j hj
      have hle : nI (p 24) ≤ nI j := nI_le (by omega) (by omega)
      rw [e85_2]
      simp only [e85_0, e85_1, e85_3, e85_4, e85_7, e85_9, e85_10, e85_13, e85_14, e85_17, e85_19, e85_20, e85_21, e85_22, e85_23, e85_26, e85_27, e85_28, e85_31, e85_34, e85_36, eq_self, kcat_nil, kcat_int, kcat_long, kcat_ref, kNL_int, kNL_ref, kNL_null, Option.toList_some, Option.toList_none, List.nil_append, List.cons_append, Nat.reduceAdd, Nat.reduceLeDiff, Nat.reduceEqDiff, true_and, and_true, true_or, or_true, false_or, or_false, ite_true, ite_false, my1, my2, my7, my12, li24, kin_nI (show 24 < 137 by decide) (by decide), clN (show 24 < 2 ^ 31 by decide), e24, hle, findN]
    | succ d ih =>
      intro j hj
      have hle : ¬ nI (p 24) ≤ nI j := nI_ge (by omega) (by omega)
      have hap' := hap j (by omega)
      have z : (nI (p (25 + j)) = nI a) ↔ p (25 + j) = a := nI_eq_iff (by omega) (by omega)
      rw [e85_2]
      simp only [e85_0, e85_1, e85_3, e85_4, e85_7, e85_9, e85_10, e85_13, e85_14, e85_17, e85_19, e85_20, e85_21, e85_22, e85_23, e85_26, e85_27, e85_28, e85_31, e85_34, e85_36, eq_self, kcat_nil, kcat_int, kcat_long, kcat_ref, kNL_int, kNL_ref, kNL_null, Option.toList_some, Option.toList_none, List.nil_append, List.cons_append, Nat.reduceAdd, Nat.reduceLeDiff, Nat.reduceEqDiff, true_and, and_true, true_or, or_true, false_or, or_false, ite_true, ite_false, my1, my2, my7, my12, li24, li25, nI_add, kin_nI (show 24 < 137 by decide) (by decide), clN (show 24 < 2 ^ 31 by decide), e24, hle, kin_nI (show 25 + j < 137 by omega) (by decide), clN (show 25 + j < 2 ^ 31 by omega), hR (25 + j) (by omega), z, nI_add1, findN]
      by_cases h : p (25 + j) = a
      · simp only [h, not_true_eq_false, if_true, if_false]
        rw [if_neg (by omega)]
      · simp only [h, not_false_eq_true, if_true, if_false]
        exact ih (j + 1) (by omega)
  rw [← loop (p 24) 0 (by omega)]
  simp only [e85_0, e85_1, e85_3, e85_4, e85_7, e85_9, e85_10, e85_13, e85_14, e85_17, e85_19, e85_20, e85_21, e85_22, e85_23, e85_26, e85_27, e85_28, e85_31, e85_34, e85_36, eq_self, kcat_nil, kcat_int, kcat_long, kcat_ref, kNL_int, kNL_ref, kNL_null, Option.toList_some, Option.toList_none, List.nil_append, List.cons_append, Nat.reduceAdd, Nat.reduceLeDiff, Nat.reduceEqDiff, true_and, and_true, true_or, or_true, false_or, or_false, ite_true, ite_false, nI_0']
theorem y_isTray {t : Int32} {M : KMem} {Q : Option Value → KMem → Prop} : kE 93 0 [.ref 166, .int t] [] M Q = if 0 ≤ t ∧ t ≤ M 167 24 then Q (some (.int 1)) M else Q (some (.int 0)) M := by
  simp only [e93_0, e93_1, e93_2, e93_3, e93_6, e93_8, e93_9, e93_12, eq_self, kcat_nil, kcat_int, kcat_long, kcat_ref, kNL_int, kNL_ref, kNL_null, Option.toList_some, Option.toList_none, List.nil_append, List.cons_append, Nat.reduceAdd, Nat.reduceLeDiff, Nat.reduceEqDiff, true_and, and_true, true_or, or_true, false_or, or_false, ite_true, ite_false, my1, my2, my7, my12, li24, kin_nI (show 24 < 137 by decide) (by decide), clN (show 24 < 2 ^ 31 by decide), y_in]
theorem y_isSieve {t : Int32} {M : KMem} {Q : Option Value → KMem → Prop} : kE 94 0 [.ref 166, .int t] [] M Q = if 0 ≤ t ∧ t ≤ M 167 24 - 1 then Q (some (.int 1)) M else Q (some (.int 0)) M := by
  simp only [e94_0, e94_1, e94_2, e94_3, e94_6, e94_8, e94_9, e94_10, e94_11, e94_14, eq_self, kcat_nil, kcat_int, kcat_long, kcat_ref, kNL_int, kNL_ref, kNL_null, Option.toList_some, Option.toList_none, List.nil_append, List.cons_append, Nat.reduceAdd, Nat.reduceLeDiff, Nat.reduceEqDiff, true_and, and_true, true_or, or_true, false_or, or_false, ite_true, ite_false, my1, my2, my7, my12, li24, kin_nI (show 24 < 137 by decide) (by decide), clN (show 24 < 2 ^ 31 by decide), y_in]
theorem sieve_in {t n : Nat} (ht : t < n) (hn : n ≤ 6) : (0 : Int32) ≤ nI t ∧ nI t ≤ nI n - 1 := by
  refine ⟨nI_pos' (by omega), ?_⟩
  rw [show (1 : Int32) = nI 1 from rfl, pk_sub (by omega)]
  exact nI_le (by omega) (by omega)
theorem sieve_out {n : Nat} (hn : n ≤ 6) : ¬ ((0 : Int32) ≤ nI n ∧ nI n ≤ nI n - 1) := by
  intro ⟨_, q⟩
  rw [Int32.le_iff_toInt_le, show (1 : Int32) = nI 1 from rfl, pk_sub_toInt (by omega) (by decide), nI_toInt (by omega)] at q
  omega
theorem y_openness {t : Nat} {M : KMem} {p : NR} {Q : Option Value → KMem → Prop} (hR : RowM M p) (hn : p 24 ≤ 6) (ht : t ≤ p 24) (hC : 1 ≤ p 20 ∧ p 20 ≤ 9999) (hs : p (53 + 12 * t + 10) ≤ 99990) :
    kE 95 0 [.ref 166, .int (nI t), .null] [] M Q = Q (some (.int (nI (if t = p 24 then 1000 else openN p t)))) M := by
  have e24 : M 167 24 = nI (p 24) := hR 24 (by decide)
  by_cases h : t = p 24
  · simp only [e95_0, e95_1, e95_2, e95_5, e95_8, e95_11, e95_12, e95_15, e95_16, e95_19, e95_20, e95_21, e95_24, e95_26, e95_27, e95_28, e95_31, e95_32, e95_33, e95_36, e95_38, e95_39, e95_40, e95_41, e95_42, e95_43, e95_45, e95_48, e95_50, e95_53, e95_54, eq_self, kcat_nil, kcat_int, kcat_long, kcat_ref, kNL_int, kNL_ref, kNL_null, Option.toList_some, Option.toList_none, List.nil_append, List.cons_append, Nat.reduceAdd, Nat.reduceLeDiff, Nat.reduceEqDiff, true_and, and_true, true_or, or_true, false_or, or_false, ite_true, ite_false, y_isSieve, e24, h, sieve_out hn, my1, not_true_eq_false, if_false]
    rfl
  · have z : ¬ nI (p 20) = 0 := by rw [show (0 : Int32) = nI 0 from rfl, nI_eq_iff (by omega) (by decide)]; omega
    have n10 : ¬ (1 : Int32) = 0 := by decide
    simp only [e95_0, e95_1, e95_2, e95_5, e95_8, e95_11, e95_12, e95_15, e95_16, e95_19, e95_20, e95_21, e95_24, e95_26, e95_27, e95_28, e95_31, e95_32, e95_33, e95_36, e95_38, e95_39, e95_40, e95_41, e95_42, e95_43, e95_45, e95_48, e95_50, e95_53, e95_54, eq_self, kcat_nil, kcat_int, kcat_long, kcat_ref, kNL_int, kNL_ref, kNL_null, Option.toList_some, Option.toList_none, List.nil_append, List.cons_append, Nat.reduceAdd, Nat.reduceLeDiff, Nat.reduceEqDiff, true_and, and_true, true_or, or_true, false_or, or_false, ite_true, ite_false, y_isSieve, e24, sieve_in (show t < p 24 by omega) hn, and_self, n10, not_false_eq_true, my1, my2, my7, my12, y_at, li10, nI_add, kin_nI (show 53 + 12 * t + 10 < 137 by omega) (by decide), clN (show 53 + 12 * t + 10 < 2 ^ 31 by omega), hR (53 + 12 * t + 10) (by omega), li20, kin_nI (show 20 < 137 by decide) (by decide), clN (show 20 < 2 ^ 31 by decide), hR 20 (by decide), z, h]
    rw [li1000, pk_mul, pk_div (by omega) (by omega) (by omega)]
    have hd : p (53 + 12 * t + 10) * 1000 / p 20 ≤ p (53 + 12 * t + 10) * 1000 := Nat.div_le_self _ _
    unfold openN
    generalize p (53 + 12 * t + 10) * 1000 / p 20 = d at hd
    have e := pk_sub_toInt (a := 1000) (b := d) (by decide) (by omega)
    by_cases hd9 : d ≤ 900
    · rw [pk_sub (by omega), if_pos (by rw [show (100 : Int32) = nI 100 from rfl]; exact nI_le (by omega) (by omega)), Nat.max_eq_right (by omega)]
    · rw [if_neg (by rw [Int32.le_iff_toInt_le, e, show (100 : Int32) = nI 100 from rfl, nI_toInt (by decide)]; omega), Nat.max_eq_left (by omega)]
      rfl
theorem y_falling {m op d : Nat} {M : KMem} {Q : Option Value → KMem → Prop} (hm : m < 2 ^ 31) (hop : op ≤ 1000) (hd : d < 2 ^ 31) : kE 99 0 [.int (nI m), .int (nI op), .int (nI d), .null, .null, .null] [] M Q = Q (some (.int (nI (fallN m op d)))) M := by
  have hp := prod_le (d := d) hm hop
  have he := ease_le d
  have h1 : (nI d = 1) ↔ d = 1 := nI_eq_iff (b := 1) hd (by decide)
  have h2 : (nI d = 2) ↔ d = 2 := nI_eq_iff (b := 2) hd (by decide)
  have zz : ¬ (1000000 : Int64) = 0 := by decide
  have tail : ∀ (e : Nat) (z : Int64), e = easeN d → z = lN e → kE 99 25 [.int (nI m), .int (nI op), .int (nI d), .null, .null, .null] [.long z] M Q = Q (some (.int (nI (fallN m op d)))) M := by
    intro e z he1 hz
    subst he1 hz
    simp only [e99_0, e99_1, e99_2, e99_5, e99_8, e99_11, e99_12, e99_13, e99_16, e99_19, e99_22, e99_25, e99_26, e99_27, e99_28, e99_29, e99_30, e99_31, e99_32, e99_33, e99_36, e99_37, e99_38, e99_40, e99_41, e99_44, e99_46, e99_49, e99_50, e99_53, e99_55, eq_self, kcat_nil, kcat_int, kcat_long, kcat_ref, kNL_int, kNL_ref, kNL_null, Option.toList_some, Option.toList_none, List.nil_append, List.cons_append, Nat.reduceAdd, Nat.reduceLeDiff, Nat.reduceEqDiff, true_and, and_true, true_or, or_true, false_or, or_false, ite_true, ite_false, zz, not_false_eq_true]
    rw [nI_l hm, nI_l (show op < 2 ^ 31 by omega), lN_mul, lN_mul, ← Nat.mul_assoc, show (1000000 : Int64) = lN 1000000 from rfl, pk_lDiv (by omega) (by decide) (by decide), lN_i]
    unfold fallN
    have hq : m * op * easeN d / 1000000 ≤ m := by
      apply Nat.div_le_of_le_mul
      have h1 : m * op * easeN d ≤ m * 1000 * 900 := Nat.mul_le_mul (Nat.mul_le_mul_left _ hop) he
      omega
    generalize m * op * easeN d / 1000000 = q at hq
    have z1 : (nI m ≤ 0) ↔ m ≤ 0 := nI_le_iff (b := 0) hm (by decide)
    have z2 : (nI q = 0) ↔ q = 0 := nI_eq_iff (b := 0) (by omega) (by decide)
    simp only [z1, z2]
    by_cases hm0 : m = 0
    · rw [if_pos (by omega), if_pos hm0, show q = 0 from by omega]
    · rw [if_neg (by omega), if_neg hm0]
      by_cases hq0 : q = 0
      · rw [if_neg (fun z => z hq0), hq0]; rfl
      · rw [if_pos hq0, Nat.max_eq_right (by omega)]
  simp only [e99_0, e99_1, e99_2, e99_5, e99_8, e99_11, e99_12, e99_13, e99_16, e99_19, e99_22, e99_26, e99_27, e99_28, e99_29, e99_30, e99_31, e99_32, e99_33, e99_36, e99_37, e99_38, e99_40, e99_41, e99_44, e99_46, e99_49, e99_50, e99_53, e99_55, eq_self, kcat_nil, kcat_int, kcat_long, kcat_ref, kNL_int, kNL_ref, kNL_null, Option.toList_some, Option.toList_none, List.nil_append, List.cons_append, Nat.reduceAdd, Nat.reduceLeDiff, Nat.reduceEqDiff, true_and, and_true, true_or, or_true, false_or, or_false, ite_true, ite_false, h1, h2]
  by_cases hd1 : d = 1
  · rw [if_neg (fun z => z hd1)]
    exact tail 300 300 (by unfold easeN; rw [if_pos hd1]) rfl
  · rw [if_pos hd1]
    by_cases hd2 : d = 2
    · rw [if_neg (fun z => z hd2)]
      exact tail 600 600 (by unfold easeN; rw [if_neg hd1, if_pos hd2]) rfl
    · rw [if_pos hd2]
      exact tail 900 900 (by unfold easeN; rw [if_neg hd1, if_neg hd2]) rfl
