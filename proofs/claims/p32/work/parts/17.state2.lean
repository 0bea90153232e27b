/-! State's writes -/
theorem nr_congr {p q : NR} (h : ∀ i, p i = q i) : nr p = nr q := funext fun i => congrArg nI (h i)
theorem Off.clr {o c n : Nat} {M M' : KMem} (h : Off o M M') (h1 : o ≤ c) (h2 : c < o + 20) : Off o M (kclrN M' c n) := fun d hd => by rw [kclrN_off (by omega)]; exact h d hd
theorem Off.cpy {o a c n : Nat} {M M' : KMem} (h : Off o M M') (h1 : o ≤ c) (h2 : c < o + 20) : Off o M (kcpy M' a 0 c 0 n) := fun d hd => by rw [kcpy_off (by omega)]; exact h d hd
theorem StR.clrLy {o t : Nat} {M : KMem} {p : NR} (h : StR o M (nr p)) (ht : t < 7) : ∀ n, n ≤ 10 → StR o (kclrN M (o + 7 + 2 * t) n) (nr (fun i => if 53 + 12 * t ≤ i ∧ i < 53 + 12 * t + n then 0 else p i)) := by
  intro n
  induction n with
  | zero =>
    intro _
    rw [kclrN_0, nr_congr (q := p) (fun i => if_neg (by omega))]
    exact h
  | succ n ih =>
    intro hn
    have s := (ih (by omega)).setLy (t := t) (k := n) ht (by omega) (nI 0)
    rw [show nI 0 = 0 from rfl, kclrN_s, show (0 : Int32) = nI 0 from rfl, nr_upd] at s
    rw [nr_congr (q := nu (fun i => if 53 + 12 * t ≤ i ∧ i < 53 + 12 * t + n then 0 else p i) (53 + 12 * t + n) 0)]
    · exact s
    · intro i
      unfold nu
      dsimp only
      by_cases h1 : i = 53 + 12 * t + n
      · rw [if_pos h1, if_pos (by omega)]
      · rw [if_neg h1]
        by_cases h2 : 53 + 12 * t ≤ i ∧ i < 53 + 12 * t + n
        · rw [if_pos h2, if_pos (by omega)]
        · rw [if_neg h2, if_neg (by omega)]
theorem StR.clrSmp {o : Nat} {M : KMem} {p : NR} (h : StR o M (nr p)) : ∀ n, n ≤ 10 → StR o (kclrN M (o + 1) n) (nr (fun i => if i < n then 0 else p i)) := by
  intro n
  induction n with
  | zero =>
    intro _
    rw [kclrN_0, nr_congr (q := p) (fun i => if_neg (by omega))]
    exact h
  | succ n ih =>
    intro hn
    have s := (ih (by omega)).setSmp (k := n) (by omega) (nI 0)
    rw [show nI 0 = 0 from rfl, kclrN_s, show (0 : Int32) = nI 0 from rfl, nr_upd] at s
    rw [nr_congr (q := nu (fun i => if i < n then 0 else p i) n 0)]
    · exact s
    · intro i
      unfold nu
      dsimp only
      by_cases h1 : i = n
      · rw [if_pos h1, if_pos (by omega)]
      · rw [if_neg h1]
        by_cases h2 : i < n
        · rw [if_pos h2, if_pos (by omega)]
        · rw [if_neg h2, if_neg (by omega)]
theorem kcpy_0 (M : KMem) (a b : Nat) : kcpy M a 0 b 0 0 = M := by
  funext c i
  by_cases hc : c = b
  · subst hc; rw [kcpy_on, if_neg (by omega)]
  · rw [kcpy_off hc]
theorem kcpy_s {M : KMem} {a b n : Nat} : mset (kcpy M a 0 b 0 n) b n (M a n) = kcpy M a 0 b 0 (n + 1) := by
  funext c i
  rw [mset_apply]
  by_cases hc : c = b
  · subst hc
    rw [kcpy_on, kcpy_on]
    by_cases hi : i = n
    · subst hi; simp
    · by_cases h2 : i < n
      · rw [if_neg (fun q => hi q.2), if_pos h2, if_pos (by omega)]
      · rw [if_neg (fun q => hi q.2), if_neg h2, if_neg (by omega)]
  · rw [if_neg (fun q => hc q.1), kcpy_off hc, kcpy_off hc]
/-- a row of ten comes into the sample, or onto the highest tray -/
theorem StR.cpyLy {o a : Nat} {M : KMem} {p g : NR} (h : StR o M (nr p)) (hg : ∀ k, k < 10 → M a k = nI (g k)) : ∀ n, n ≤ 10 → StR o (kcpy M a 0 (o + 7 + 2 * 0) 0 n) (nr (fun i => if 53 ≤ i ∧ i < 53 + n then g (i - 53) else p i)) := by
  intro n
  induction n with
  | zero =>
    intro _
    rw [kcpy_0, nr_congr (q := p) (fun i => if_neg (by omega))]
    exact h
  | succ n ih =>
    intro hn
    have s := (ih (by omega)).setLy (t := 0) (k := n) (by decide) (by omega) (nI (g n))
    rw [← hg n (by omega), kcpy_s, hg n (by omega), nr_upd] at s
    rw [nr_congr (q := nu (fun i => if 53 ≤ i ∧ i < 53 + n then g (i - 53) else p i) (53 + 12 * 0 + n) (g n))]
    · exact s
    · intro i
      unfold nu
      dsimp only
      by_cases h1 : i = 53 + 12 * 0 + n
      · rw [if_pos h1, if_pos (by omega), show i - 53 = n from by omega]
      · rw [if_neg h1]
        by_cases h2 : 53 ≤ i ∧ i < 53 + n
        · rw [if_pos h2, if_pos (by omega)]
        · rw [if_neg h2, if_neg (by omega)]
theorem StR.cpySmp {o a : Nat} {M : KMem} {p g : NR} (h : StR o M (nr p)) (hg : ∀ k, k < 10 → M a k = nI (g k)) : ∀ n, n ≤ 10 → StR o (kcpy M a 0 (o + 1) 0 n) (nr (fun i => if i < n then g i else p i)) := by
  intro n
  induction n with
  | zero =>
    intro _
    rw [kcpy_0, nr_congr (q := p) (fun i => if_neg (by omega))]
    exact h
  | succ n ih =>
    intro hn
    have s := (ih (by omega)).setSmp (k := n) (by omega) (nI (g n))
    rw [← hg n (by omega), kcpy_s, hg n (by omega), nr_upd] at s
    rw [nr_congr (q := nu (fun i => if i < n then g i else p i) n (g n))]
    · exact s
    · intro i
      unfold nu
      dsimp only
      by_cases h1 : i = n
      · rw [if_pos h1, if_pos (by omega), h1]
      · rw [if_neg h1]
        by_cases h2 : i < n
        · rw [if_pos h2, if_pos (by omega)]
        · rw [if_neg h2, if_neg (by omega)]
theorem x_endAnalysis {o : Nat} {M : KMem} {p : NR} {Q : Option Value → KMem → Prop} (ho : isSt o) (hR : StR o M (nr p)) (hQ : ∀ M', StR o M' (nr (endsN p)) → Off o M M' → Q none M') : kE 7 0 [.ref o, .null] [] M Q := by
  have loop : ∀ d t, t + d = 7 → ∀ M1, StR o M1 (nr (fun i => if 53 ≤ i ∧ i < 53 + 12 * t then 0 else p i)) → Off o M M1 → kE 7 2 [.ref o, .int (nI t)] [] M1 Q := by
    intro d
    induction d with
    | zero =>
      intro t ht M1 h hO
      have : t = 7 := by omega
      subst this
      have lt : (6 : Int32) < nI 7 := by decide
      rw [e7_2]
      simp only [e7_0, e7_1, e7_3, e7_5, e7_8, e7_9, e7_12, e7_13, e7_14, e7_17, e7_20, e7_23, e7_24, e7_25, e7_28, e7_29, e7_30, e7_33, e7_34, e7_35, e7_38, e7_39, e7_40, e7_43, eq_self, kcat_nil, kcat_int, kcat_long, kcat_ref, kNL_int, kNL_ref, kNL_null, Option.toList_some, Option.toList_none, List.nil_append, List.cons_append, Nat.reduceAdd, Nat.reduceLeDiff, Nat.reduceEqDiff, true_and, and_true, true_or, or_true, false_or, or_false, ite_true, ite_false, lt, kd_o ho]
      refine hQ _ ?_ ((((hO.mset (by omega) (by omega)).mset (by omega) (by omega)).mset (by omega) (by omega)).mset (by omega) (by omega))
      have s1 := h.set 49 (by decide) (by unfold isAp; omega) (by decide) (c := o) (j := 10) rfl rfl (nI 0)
      have s2 := s1.set 50 (by decide) (by unfold isAp; omega) (by decide) (c := o) (j := 11) rfl rfl (nI 0)
      have s3 := s2.set 51 (by decide) (by unfold isAp; omega) (by decide) (c := o) (j := 12) rfl rfl (nI 0)
      have s4 := s3.set 52 (by decide) (by unfold isAp; omega) (by decide) (c := o) (j := 13) rfl rfl (nI 0)
      rw [nr_upd, nr_upd, nr_upd, nr_upd] at s4
      refine s4.congr (fun i _ => congrArg nI ?_)
      unfold endsN nu
      dsimp only
      by_cases h1 : i = 52
      · rw [if_pos h1, if_pos (by omega)]
      · by_cases h2 : i = 51
        · rw [if_neg h1, if_pos h2, if_pos (by omega)]
        · by_cases h3 : i = 50
          · rw [if_neg h1, if_neg h2, if_pos h3, if_pos (by omega)]
          · by_cases h4 : i = 49
            · rw [if_neg h1, if_neg h2, if_neg h3, if_pos h4, if_pos (by omega)]
            · rw [if_neg h1, if_neg h2, if_neg h3, if_neg h4]
              by_cases h5 : 49 ≤ i ∧ i < 137
              · rw [if_pos h5, if_pos (by omega)]
              · rw [if_neg h5, if_neg (by omega)]
    | succ d ih =>
      intro t ht M1 h hO
      have ht7 : t < 7 := by omega
      have nlt : ¬ (6 : Int32) < nI t := by rw [show (6 : Int32) = nI 6 from rfl, nI_lt_iff (by decide) (by omega)]; omega
      rw [e7_2]
      simp only [e7_0, e7_1, e7_3, e7_5, e7_8, e7_9, e7_12, e7_13, e7_14, e7_17, e7_20, e7_23, e7_24, e7_25, e7_28, e7_29, e7_30, e7_33, e7_34, e7_35, e7_38, e7_39, e7_40, e7_43, eq_self, kcat_nil, kcat_int, kcat_long, kcat_ref, kNL_int, kNL_ref, kNL_null, Option.toList_some, Option.toList_none, List.nil_append, List.cons_append, Nat.reduceAdd, Nat.reduceLeDiff, Nat.reduceEqDiff, true_and, and_true, true_or, or_true, false_or, or_false, ite_true, ite_false, nlt, if_false, kd_o ho, rf_o2 ho, kd_o3 ho, ln_o3 ho, kin_nI ht7 (by decide), nI_clamp (show t < 2 ^ 31 by omega), rf_tr ho, kd_tr ho ht7, nI_add1, x_throwAway (kd_tr ho ht7) (rf_ly ho ht7) (kd_ly ho ht7) (ln_ly ho ht7)]
      refine ih (t + 1) (by omega) _ ?_ (((hO.clr (by omega) (by omega)).mset (by omega) (by omega)).mset (by omega) (by omega))
      have s1 := h.clrLy (t := t) ht7 10 (Nat.le_refl _)
      have s2 := s1.setSk (t := t) ht7 (nI 0)
      have s3 := s2.setCo (t := t) ht7 (nI 0)
      rw [nr_upd, nr_upd] at s3
      refine s3.congr (fun i _ => congrArg nI ?_)
      unfold nu
      dsimp only
      by_cases h1 : i = 53 + 12 * t + 11
      · rw [if_pos h1, if_pos (by omega)]
      · by_cases h2 : i = 53 + 12 * t + 10
        · rw [if_neg h1, if_pos h2, if_pos (by omega)]
        · rw [if_neg h1, if_neg h2]
          by_cases h3 : 53 + 12 * t ≤ i ∧ i < 53 + 12 * t + 10
          · rw [if_pos h3, if_pos (by omega)]
          · rw [if_neg h3]
            by_cases h4 : 53 ≤ i ∧ i < 53 + 12 * t
            · rw [if_pos h4, if_pos (by omega)]
            · rw [if_neg h4, if_neg (by omega)]
  simp only [e7_0, e7_1, e7_3, e7_5, e7_8, e7_9, e7_12, e7_13, e7_14, e7_17, e7_20, e7_23, e7_24, e7_25, e7_28, e7_29, e7_30, e7_33, e7_34, e7_35, e7_38, e7_39, e7_40, e7_43, eq_self, kcat_nil, kcat_int, kcat_long, kcat_ref, kNL_int, kNL_ref, kNL_null, Option.toList_some, Option.toList_none, List.nil_append, List.cons_append, Nat.reduceAdd, Nat.reduceLeDiff, Nat.reduceEqDiff, true_and, and_true, true_or, or_true, false_or, or_false, ite_true, ite_false]
  exact loop 7 0 rfl M (by rw [nr_congr (q := p) (fun i => if_neg (by omega))]; exact hR) Off.rfl'
theorem x_beginAnalysis {o total : Nat} {M : KMem} {p : NR} {Q : Option Value → KMem → Prop} (ho : isSt o) (hR : StR o M (nr p)) (hQ : ∀ M', StR o M' (nr (begN p total)) → Off o M M' → Q none M') : kE 8 0 [.ref o, .int (nI total)] [] M Q := by
  have k0 : kin (0 : Int32) 7 = true := by decide
  have z0 : (0 : Int32).toNatClampNeg = 0 := rfl
  simp only [e8_0, e8_1, e8_4, e8_5, e8_8, e8_9, e8_10, e8_13, e8_16, e8_17, e8_20, e8_23, e8_24, e8_25, e8_28, e8_29, e8_30, e8_33, eq_self, kcat_nil, kcat_int, kcat_long, kcat_ref, kNL_int, kNL_ref, kNL_null, Option.toList_some, Option.toList_none, List.nil_append, List.cons_append, Nat.reduceAdd, Nat.reduceLeDiff, Nat.reduceEqDiff, true_and, and_true, true_or, or_true, false_or, or_false, ite_true, ite_false, kd_o ho, rf_o0 ho, rf_o2 ho, kd_o3 ho, ln_o3 ho, k0, z0, rf_tr ho, kd_tr ho (show 0 < 7 by decide), rf_ly ho (show 0 < 7 by decide), x_copyRow (kd_o1 ho) (kd_ly ho (show 0 < 7 by decide)) (ln_o1 ho) (ln_ly ho (show 0 < 7 by decide)) (by decide), x_clearRow (kd_o1 ho) (show ln (o + 1) < 2 ^ 31 by rw [ln_o1 ho]; decide), ln_o1 ho]
  refine hQ _ ?_ ((((Off.rfl'.cpy (by omega) (by omega)).clr (by omega) (by omega)).mset (by omega) (by omega)).mset (by omega) (by omega))
  have s1 := hR.cpyLy (a := o + 1) (g := p) (fun k hk => hR.smp hk) 10 (Nat.le_refl _)
  have s2 := s1.clrSmp 10 (Nat.le_refl _)
  have s3 := s2.set 49 (by decide) (by unfold isAp; omega) (by decide) (c := o) (j := 10) rfl rfl (nI 1)
  have s4 := s3.set 50 (by decide) (by unfold isAp; omega) (by decide) (c := o) (j := 11) rfl rfl (nI total)
  rw [nr_upd, nr_upd] at s4
  refine s4.congr (fun i _ => congrArg nI ?_)
  unfold begN nu
  dsimp only
  by_cases h1 : i < 10
  · rw [if_pos h1, if_neg (by omega), if_neg (by omega), if_pos h1]
  · by_cases h2 : i = 50
    · rw [if_neg h1, if_neg (by omega), if_neg (by omega), if_pos h2, if_pos h2]
    · by_cases h3 : i = 49
      · rw [if_neg h1, if_neg (by omega), if_pos h3, if_neg h2, if_pos h3]
      · rw [if_neg h1, if_neg h2, if_neg h3, if_neg h3, if_neg h1, if_neg h2]
