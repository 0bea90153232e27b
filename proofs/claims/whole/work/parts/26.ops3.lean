/-! the calls that read an analysis -/
theorem z49 {p : NR} {N : Nat} (h : Inv p N) : (nI (p 49) = 0) ↔ p 49 = 0 := nI_eq_iff (b := 0) (by have := h.f49; omega) (by decide)
theorem op_loss : OpOK 49 105 [] := by
  intro S N hN hI
  have hn := hI.1.f24
  have z := z49 hI.1
  have ht := hI.1.tot
  refine ⟨if S.1 49 = 0 then -2 else nI (lostN S.1), S, hI.mono, fun M Q hX hQ => ?_, fun M Q hY hQ => ?_⟩
  · show kE 49 0 [.ref 0] [] M Q
    have e : M 1 10 = nI (S.1 49) := hX.1.f49
    have hq := hQ M hX Fx.rfl'
    simp only [e49_0, e49_1, e49_4, e49_7, e49_10, e49_12, e49_13, e49_14, e49_17, e49_20, eq_self, kcat_nil, kcat_int, kcat_long, kcat_ref, kNL_int, kNL_ref, kNL_null, Option.toList_some, Option.toList_none, List.nil_append, List.cons_append, Nat.reduceAdd, Nat.reduceLeDiff, Nat.reduceEqDiff, true_and, and_true, true_or, or_true, false_or, or_false, ite_true, ite_false, tp1, tp5, tp18, e, z, x_lostMass st1 hX.1 hn ht.1]
    by_cases h : S.1 49 = 0
    · rw [if_neg (fun q => q h)]; rw [if_pos h] at hq; exact hq
    · rw [if_pos h]; rw [if_neg h] at hq; exact hq
  · show kE 105 0 [.ref 166] [] M Q
    have hq := hQ M hY Fy.rfl'
    simp only [e105_0, e105_1, e105_4, e105_6, e105_7, e105_10, e105_12, e105_15, e105_16, e105_19, eq_self, kcat_nil, kcat_int, kcat_long, kcat_ref, kNL_int, kNL_ref, kNL_null, Option.toList_some, Option.toList_none, List.nil_append, List.cons_append, Nat.reduceAdd, Nat.reduceLeDiff, Nat.reduceEqDiff, true_and, and_true, true_or, or_true, false_or, or_false, ite_true, ite_false, my1, my2, my7, my12, li49, kin_nI (show 49 < 137 by decide) (by decide), clN (show 49 < 2 ^ 31 by decide), hY.1 49 (by decide), z, y_lost hY.1 hn ht.1]
    by_cases h : S.1 49 = 0
    · rw [if_neg (fun q => q h)]; rw [if_pos h] at hq; exact hq
    · rw [if_pos h]; rw [if_neg h] at hq; exact hq
theorem lcmp_gt {a b : Nat} (ha : a < 2 ^ 63) (hb : b < 2 ^ 63) : (0 < lg_cmp (lN a) (lN b)) ↔ b < a := by
  unfold lg_cmp
  simp only [pk_lLT hb ha, pk_lLT ha hb, pk_lEQ ha hb]
  by_cases h : b < a
  · simp [h]
  · by_cases h2 : a = b
    · simp [h2]
    · simp [h, h2]
theorem op_isGood : OpOK 50 106 [] := by
  intro S N hN hI
  have hn := hI.1.f24
  have z := z49 hI.1
  have ht := hI.1.tot
  have hl : lostN S.1 ≤ 99990 := by unfold lostN; omega
  have hG : S.1 23 ≤ 100 := hI.1.2.2.2.2.2.1
  have hm : S.1 23 * S.1 50 ≤ 100 * 99990 := Nat.mul_le_mul hG ht.2.1
  refine ⟨if S.1 49 = 0 then -2 else if lostN S.1 * 1000 ≤ S.1 23 * S.1 50 then 1 else 0, S, hI.mono, fun M Q hX hQ => ?_, fun M Q hY hQ => ?_⟩
  · show kE 50 0 [.ref 0] [] M Q
    have e : M 1 10 = nI (S.1 49) := hX.1.f49
    have e2 : M 1 9 = nI (S.1 23) := hX.1.f23
    have e3 : M 1 11 = nI (S.1 50) := hX.1.f50
    have hq := hQ M hX Fx.rfl'
    have zc : (nI (S.1 23 * S.1 50) < nI (lostN S.1 * 1000)) ↔ S.1 23 * S.1 50 < lostN S.1 * 1000 := nI_lt_iff (by omega) (by omega)
    simp only [e50_0, e50_1, e50_4, e50_7, e50_10, e50_12, e50_13, e50_14, e50_17, e50_20, e50_23, e50_24, e50_25, e50_28, e50_31, e50_32, e50_35, e50_38, e50_39, e50_42, e50_43, e50_46, e50_47, eq_self, kcat_nil, kcat_int, kcat_long, kcat_ref, kNL_int, kNL_ref, kNL_null, Option.toList_some, Option.toList_none, List.nil_append, List.cons_append, Nat.reduceAdd, Nat.reduceLeDiff, Nat.reduceEqDiff, true_and, and_true, true_or, or_true, false_or, or_false, ite_true, ite_false, tp1, tp5, tp18, e, z, x_lostMass st1 hX.1 hn ht.1, li1000, e2, e3, pk_mul, zc]
    by_cases h : S.1 49 = 0
    · rw [if_neg (fun q => q h)]; rw [if_pos h] at hq; exact hq
    · rw [if_pos h]; rw [if_neg h] at hq
      by_cases h2 : lostN S.1 * 1000 ≤ S.1 23 * S.1 50
      · rw [if_neg (by omega)]; rw [if_pos h2] at hq; exact hq
      · rw [if_pos (by omega)]; rw [if_neg h2] at hq; exact hq
  · show kE 106 0 [.ref 166] [] M Q
    have hq := hQ M hY Fy.rfl'
    have zc : (0 < lg_cmp (lN (lostN S.1 * 1000)) (lN (S.1 23 * S.1 50))) ↔ S.1 23 * S.1 50 < lostN S.1 * 1000 := lcmp_gt (by omega) (by omega)
    have l1000 : (1000 : Int64) = lN 1000 := rfl
    simp only [e106_0, e106_1, e106_4, e106_6, e106_7, e106_10, e106_12, e106_15, e106_16, e106_19, e106_20, e106_23, e106_24, e106_25, e106_28, e106_30, e106_31, e106_32, e106_33, e106_36, e106_38, e106_39, e106_40, e106_41, e106_42, e106_45, e106_46, e106_49, e106_50, eq_self, kcat_nil, kcat_int, kcat_long, kcat_ref, kNL_int, kNL_ref, kNL_null, Option.toList_some, Option.toList_none, List.nil_append, List.cons_append, Nat.reduceAdd, Nat.reduceLeDiff, Nat.reduceEqDiff, true_and, and_true, true_or, or_true, false_or, or_false, ite_true, ite_false, my1, my2, my7, my12, li49, li50, li23, kin_nI (show 49 < 137 by decide) (by decide), clN (show 49 < 2 ^ 31 by decide), kin_nI (show 50 < 137 by decide) (by decide), clN (show 50 < 2 ^ 31 by decide), kin_nI (show 23 < 137 by decide) (by decide), clN (show 23 < 2 ^ 31 by decide), hY.1 49 (by decide), hY.1 50 (by decide), hY.1 23 (by decide), z, y_lost hY.1 hn ht.1, nI_l (show lostN S.1 < 2 ^ 31 by omega), nI_l (show S.1 23 < 2 ^ 31 by omega), nI_l (show S.1 50 < 2 ^ 31 by omega), l1000, lN_mul, zc]
    by_cases h : S.1 49 = 0
    · rw [if_neg (fun q => q h)]; rw [if_pos h] at hq; exact hq
    · rw [if_pos h]; rw [if_neg h] at hq
      by_cases h2 : lostN S.1 * 1000 ≤ S.1 23 * S.1 50
      · rw [if_neg (by omega)]; rw [if_pos h2] at hq; exact hq
      · rw [if_pos (by omega)]; rw [if_neg h2] at hq; exact hq
theorem m1_sub {n : Nat} (h : 1 ≤ n) : nI n - 1 = nI (n - 1) := by rw [show (1 : Int32) = nI 1 from rfl, pk_sub h]
theorem sieve_rng {x : Int32} {n : Nat} (hn : n ≤ 6) : ¬ (0 ≤ x ∧ x ≤ nI n - 1) ∨ ∃ t, t < n ∧ x = nI t := by
  by_cases h0 : n = 0
  · subst h0
    left
    intro ⟨q1, q2⟩
    rw [Int32.le_iff_toInt_le] at q1 q2
    have a : (nI 0 - 1 : Int32).toInt = -1 := rfl
    have b : (0 : Int32).toInt = 0 := rfl
    omega
  · rw [m1_sub (by omega)]
    rcases rng x 0 (n - 1) (by omega) (by decide) with h | ⟨t, _, ht, e⟩
    · exact Or.inl h
    · exact Or.inr ⟨t, by omega, e⟩
theorem op_passing (x : Int32) : OpOK 51 110 [.int x] := by
  intro S N hN hI
  have n10 : ¬ (1 : Int32) = 0 := by decide
  have hn := hI.1.f24
  have h49 := hI.1.f49
  have ht := hI.1.tot
  rcases sieve_rng (x := x) hn with h | ⟨t, htn, rfl⟩
  · refine ⟨-1, S, hI.mono, fun M Q hX hQ => ?_, fun M Q hY hQ => ?_⟩
    · show kE 51 0 [.ref 0, .int x] [] M Q
      have e1 : M 1 5 = nI (S.1 24) := hX.1.f24
      simp only [e51_0, e51_1, e51_4, e51_5, e51_8, e51_11, e51_12, e51_13, e51_14, e51_17, e51_20, e51_23, e51_25, e51_26, e51_27, e51_30, e51_31, e51_34, eq_self, kcat_nil, kcat_int, kcat_long, kcat_ref, kNL_int, kNL_ref, kNL_null, Option.toList_some, Option.toList_none, List.nil_append, List.cons_append, Nat.reduceAdd, Nat.reduceLeDiff, Nat.reduceEqDiff, true_and, and_true, true_or, or_true, false_or, or_false, ite_true, ite_false, tp1, tp5, tp18, x_isSieve st1, e1, h, if_false, not_true_eq_false]
      exact hQ M hX Fx.rfl'
    · show kE 110 0 [.ref 166, .int x] [] M Q
      simp only [e110_0, e110_1, e110_2, e110_5, e110_8, e110_9, e110_12, e110_13, e110_16, e110_19, e110_20, e110_21, e110_24, e110_27, e110_29, eq_self, kcat_nil, kcat_int, kcat_long, kcat_ref, kNL_int, kNL_ref, kNL_null, Option.toList_some, Option.toList_none, List.nil_append, List.cons_append, Nat.reduceAdd, Nat.reduceLeDiff, Nat.reduceEqDiff, true_and, and_true, true_or, or_true, false_or, or_false, ite_true, ite_false, my1, y_isSieve, row24 hY.1, h, if_false, not_true_eq_false]
      exact hQ M hY Fy.rfl'
  have si := sieve_in htn hn
  by_cases hc : S.1 49 = 1 ∧ 0 < colN S.1 0
  · refine ⟨nI (passN S.1 t), S, hI.mono, fun M Q hX hQ => ?_, fun M Q hY hQ => ?_⟩
    · show kE 51 0 [.ref 0, .int (nI t)] [] M Q
      have e1 : M 1 5 = nI (S.1 24) := hX.1.f24
      simp only [e51_0, e51_1, e51_4, e51_5, e51_8, e51_11, e51_12, e51_13, e51_14, e51_17, e51_20, e51_23, e51_25, e51_26, e51_27, e51_30, e51_31, e51_34, eq_self, kcat_nil, kcat_int, kcat_long, kcat_ref, kNL_int, kNL_ref, kNL_null, Option.toList_some, Option.toList_none, List.nil_append, List.cons_append, Nat.reduceAdd, Nat.reduceLeDiff, Nat.reduceEqDiff, true_and, and_true, true_or, or_true, false_or, or_false, ite_true, ite_false, tp1, tp5, tp18, x_isSieve st1, e1, si, and_self, n10, not_false_eq_true, x_hasCollected st1 hX.1 hn h49 ht.2.2, hc, x_passingOf st1 hX.1 hn htn ht.2.2 hc.2]
      exact hQ M hX Fx.rfl'
    · show kE 110 0 [.ref 166, .int (nI t)] [] M Q
      simp only [e110_0, e110_1, e110_2, e110_5, e110_8, e110_9, e110_12, e110_13, e110_16, e110_19, e110_20, e110_21, e110_24, e110_27, e110_29, eq_self, kcat_nil, kcat_int, kcat_long, kcat_ref, kNL_int, kNL_ref, kNL_null, Option.toList_some, Option.toList_none, List.nil_append, List.cons_append, Nat.reduceAdd, Nat.reduceLeDiff, Nat.reduceEqDiff, true_and, and_true, true_or, or_true, false_or, or_false, ite_true, ite_false, my1, y_isSieve, row24 hY.1, si, and_self, n10, not_false_eq_true, if_false, if_true, y_isTold hY.1 hn h49 ht.2.2, hc, y_passes hY.1 hn htn ht.2.2 hc.2]
      exact hQ M hY Fy.rfl'
  · refine ⟨-2, S, hI.mono, fun M Q hX hQ => ?_, fun M Q hY hQ => ?_⟩
    · show kE 51 0 [.ref 0, .int (nI t)] [] M Q
      have e1 : M 1 5 = nI (S.1 24) := hX.1.f24
      simp only [e51_0, e51_1, e51_4, e51_5, e51_8, e51_11, e51_12, e51_13, e51_14, e51_17, e51_20, e51_23, e51_25, e51_26, e51_27, e51_30, e51_31, e51_34, eq_self, kcat_nil, kcat_int, kcat_long, kcat_ref, kNL_int, kNL_ref, kNL_null, Option.toList_some, Option.toList_none, List.nil_append, List.cons_append, Nat.reduceAdd, Nat.reduceLeDiff, Nat.reduceEqDiff, true_and, and_true, true_or, or_true, false_or, or_false, ite_true, ite_false, tp1, tp5, tp18, x_isSieve st1, e1, si, and_self, n10, not_false_eq_true, x_hasCollected st1 hX.1 hn h49 ht.2.2, if_neg hc, not_true_eq_false, if_false]
      exact hQ M hX Fx.rfl'
    · show kE 110 0 [.ref 166, .int (nI t)] [] M Q
      simp only [e110_0, e110_1, e110_2, e110_5, e110_8, e110_9, e110_12, e110_13, e110_16, e110_19, e110_20, e110_21, e110_24, e110_27, e110_29, eq_self, kcat_nil, kcat_int, kcat_long, kcat_ref, kNL_int, kNL_ref, kNL_null, Option.toList_some, Option.toList_none, List.nil_append, List.cons_append, Nat.reduceAdd, Nat.reduceLeDiff, Nat.reduceEqDiff, true_and, and_true, true_or, or_true, false_or, or_false, ite_true, ite_false, my1, y_isSieve, row24 hY.1, si, and_self, n10, not_false_eq_true, if_false, if_true, y_isTold hY.1 hn h49 ht.2.2, if_neg hc]
      exact hQ M hY Fy.rfl'
theorem pass_le {p : NR} {t : Nat} (hn : p 24 ≤ 6) : passN p t ≤ 1000 := by
  unfold passN
  apply Nat.div_le_of_le_mul
  have : colN p (t + 1) ≤ colN p 0 := by
    unfold colN
    by_cases h : t + 1 ≤ p 24 + 1
    · have := nsum_split (fun j => p (53 + 12 * (0 + j) + 11)) (t + 1) (p 24 + 1 - (t + 1))
      rw [show t + 1 + (p 24 + 1 - (t + 1)) = p 24 + 1 - 0 from by omega] at this
      rw [this, nsum_congr (f := fun j => p (53 + 12 * (t + 1 + j) + 11)) (g := fun k => p (53 + 12 * (0 + (t + 1 + k)) + 11)) (fun k _ => by rw [Nat.zero_add])]
      omega
    · rw [show p 24 + 1 - (t + 1) = 0 from by omega]
      exact Nat.zero_le _
  omega
def missN (p : NR) (t : Nat) : Nat := nsum (fun t => if p (31 + 2 * (p (25 + t) - 1)) ≤ passN p t ∧ passN p t ≤ p (32 + 2 * (p (25 + t) - 1)) then 0 else 1) t
def modN (p : NR) (t : Nat) : Nat := nsum (fun t => 1000 - passN p t) t
theorem Inv.band {p : NR} {N : Nat} (h : Inv p N) : ∀ i, 31 ≤ i → i < 49 → p i ≤ 1000 := h.2.2.2.2.2.2.2.2.2.1
theorem op_misses : OpOK 52 111 [] := by
  intro S N hN hI
  have n10 : ¬ (1 : Int32) = 0 := by decide
  have hn := hI.1.f24
  have h49 := hI.1.f49
  have ht := hI.1.tot
  by_cases hc : S.1 49 = 1 ∧ 0 < colN S.1 0
  · refine ⟨nI (missN S.1 (S.1 24)), S, hI.mono, fun M Q hX hQ => ?_, fun M Q hY hQ => ?_⟩
    · show kE 52 0 [.ref 0, .null, .null, .null] [] M Q
      have hR := hX.1
      have e1 : M 1 5 = nI (S.1 24) := hR.f24
      have hcl : (nr S.1 24).toNatClampNeg = S.1 24 := clN (by omega)
      have loop : ∀ d j, j + d = S.1 24 → ∀ v3, kNL v3 = true → kE 52 17 [.ref 0, .int (nI (missN S.1 j)), .int (nI j), v3] [] M Q := by
        intro d
        induction d with
        | zero =>
          intro j hj v3 h3
          have : j = S.1 24 := by omega
          subst this
          have le : nI (S.1 24) ≤ nI (S.1 24) := nI_le (Nat.le_refl _) (by omega)
          rw [e52_17]
          simp only [e52_0, e52_1, e52_4, e52_7, e52_10, e52_12, e52_13, e52_14, e52_15, e52_16, e52_18, e52_19, e52_22, e52_25, e52_28, e52_29, e52_32, e52_35, e52_36, e52_37, e52_40, e52_41, e52_42, e52_45, e52_46, e52_49, e52_50, e52_53, e52_56, e52_57, e52_58, e52_59, e52_62, e52_65, e52_66, e52_67, e52_70, e52_73, e52_76, e52_79, e52_82, e52_83, eq_self, kcat_nil, kcat_int, kcat_long, kcat_ref, kNL_int, kNL_ref, kNL_null, Option.toList_some, Option.toList_none, List.nil_append, List.cons_append, Nat.reduceAdd, Nat.reduceLeDiff, Nat.reduceEqDiff, true_and, and_true, true_or, or_true, false_or, or_false, ite_true, ite_false, tp1, tp5, tp18, e1, le]
          exact hQ M hX Fx.rfl'
        | succ d ih =>
          intro j hj v3 h3
          have nle : ¬ nI (S.1 24) ≤ nI j := nI_ge (by omega) (by omega)
          have ha1 := hI.1.ap1 j (by omega)
          have ha9 := hI.1.ap9 j (by omega)
          have ea : M (7 + 2 * j) 1 = nI (S.1 (25 + j)) := hR.2.1 j (by omega) (by rw [hcl]; omega)
          have el : M 5 (S.1 (25 + j)) = nI (S.1 (31 + 2 * (S.1 (25 + j) - 1))) := hR.lo ha1 (by omega)
          have eh : M 6 (S.1 (25 + j)) = nI (S.1 (32 + 2 * (S.1 (25 + j) - 1))) := hR.hi ha1 (by omega)
          have hb1 := hI.1.band (31 + 2 * (S.1 (25 + j) - 1)) (by omega) (by omega)
          have hb2 := hI.1.band (32 + 2 * (S.1 (25 + j) - 1)) (by omega) (by omega)
          have hp := pass_le (p := S.1) (t := j) hn
          have zc : (nI (S.1 (31 + 2 * (S.1 (25 + j) - 1))) ≤ nI (passN S.1 j) ∧ nI (passN S.1 j) ≤ nI (S.1 (32 + 2 * (S.1 (25 + j) - 1)))) ↔ (S.1 (31 + 2 * (S.1 (25 + j) - 1)) ≤ passN S.1 j ∧ passN S.1 j ≤ S.1 (32 + 2 * (S.1 (25 + j) - 1))) := by
            rw [nI_le_iff (by omega) (by omega), nI_le_iff (by omega) (by omega)]
          have ih := ih (j + 1) (by omega) (.int (nI (S.1 (25 + j)))) rfl
          rw [e52_17]
          simp only [e52_0, e52_1, e52_4, e52_7, e52_10, e52_12, e52_13, e52_14, e52_15, e52_16, e52_18, e52_19, e52_22, e52_25, e52_28, e52_29, e52_32, e52_35, e52_36, e52_37, e52_40, e52_41, e52_42, e52_45, e52_46, e52_49, e52_50, e52_53, e52_56, e52_57, e52_58, e52_59, e52_62, e52_65, e52_66, e52_67, e52_70, e52_73, e52_76, e52_79, e52_82, e52_83, eq_self, kcat_nil, kcat_int, kcat_long, kcat_ref, kNL_int, kNL_ref, kNL_null, Option.toList_some, Option.toList_none, List.nil_append, List.cons_append, Nat.reduceAdd, Nat.reduceLeDiff, Nat.reduceEqDiff, true_and, and_true, true_or, or_true, false_or, or_false, ite_true, ite_false, tp1, tp5, tp18, e1, nle, tp22, tp27, tp32, kin_nI (show j < 7 by omega) (by decide), clN (show j < 2 ^ 31 by omega), tp35, kd_t1 (show j < 7 by omega), ea, x_passingOf st1 hR hn (show j < S.1 24 by omega) ht.2.2 hc.2, tp23, tp24, tp28, tp29, tp33, tp34, kin_nI (show S.1 (25 + j) < 10 by omega) (by decide), clN (show S.1 (25 + j) < 2 ^ 31 by omega), el, eh, x_isIn, zc, nI_add1]
          by_cases hz : S.1 (31 + 2 * (S.1 (25 + j) - 1)) ≤ passN S.1 j ∧ passN S.1 j ≤ S.1 (32 + 2 * (S.1 (25 + j) - 1))
          · have em : missN S.1 (j + 1) = missN S.1 j := by show missN S.1 j + _ = _; dsimp only; rw [if_pos hz, Nat.add_zero]
            rw [em] at ih
            simp only [hz, and_self, if_true, n10, not_false_eq_true]
            exact ih
          · have em : missN S.1 (j + 1) = missN S.1 j + 1 := by show missN S.1 j + _ = _; dsimp only; rw [if_neg hz]
            rw [em] at ih
            simp only [hz, if_false, not_true_eq_false]
            exact ih
      simp only [e52_0, e52_1, e52_4, e52_7, e52_10, e52_12, e52_13, e52_14, e52_15, e52_16, e52_18, e52_19, e52_22, e52_25, e52_28, e52_29, e52_32, e52_35, e52_36, e52_37, e52_40, e52_41, e52_42, e52_45, e52_46, e52_49, e52_50, e52_53, e52_56, e52_57, e52_58, e52_59, e52_62, e52_65, e52_66, e52_67, e52_70, e52_73, e52_76, e52_79, e52_82, e52_83, eq_self, kcat_nil, kcat_int, kcat_long, kcat_ref, kNL_int, kNL_ref, kNL_null, Option.toList_some, Option.toList_none, List.nil_append, List.cons_append, Nat.reduceAdd, Nat.reduceLeDiff, Nat.reduceEqDiff, true_and, and_true, true_or, or_true, false_or, or_false, ite_true, ite_false, tp1, tp5, tp18, x_hasCollected st1 hX.1 hn h49 ht.2.2, hc, and_self, if_true, n10, not_false_eq_true]
      exact loop (S.1 24) 0 (by omega) .null rfl
    · show kE 111 0 [.ref 166, .null, .null, .null] [] M Q
      have hR := hY.1
      have loop : ∀ d j, j + d = S.1 24 → ∀ v3, kNL v3 = true → kE 111 14 [.ref 166, .int (nI (missN S.1 j)), .int (nI j), v3] [] M Q := by
        intro d
        induction d with
        | zero =>
          intro j hj v3 h3
          have : j = S.1 24 := by omega
          subst this
          have le : nI (S.1 24) ≤ nI (S.1 24) := nI_le (Nat.le_refl _) (by omega)
          rw [e111_14]
          simp only [e111_0, e111_1, e111_4, e111_7, e111_9, e111_10, e111_11, e111_12, e111_13, e111_15, e111_16, e111_19, e111_21, e111_22, e111_25, e111_27, e111_28, e111_29, e111_32, e111_34, e111_35, e111_36, e111_37, e111_38, e111_39, e111_40, e111_41, e111_42, e111_43, e111_44, e111_45, e111_48, e111_49, e111_52, e111_53, e111_54, e111_55, e111_58, e111_59, e111_60, e111_61, e111_62, e111_65, e111_68, e111_69, e111_72, e111_73, e111_74, e111_75, e111_78, e111_81, e111_82, eq_self, kcat_nil, kcat_int, kcat_long, kcat_ref, kNL_int, kNL_ref, kNL_null, Option.toList_some, Option.toList_none, List.nil_append, List.cons_append, Nat.reduceAdd, Nat.reduceLeDiff, Nat.reduceEqDiff, true_and, and_true, true_or, or_true, false_or, or_false, ite_true, ite_false, my1, my2, my7, my12, li24, kin_nI (show 24 < 137 by decide) (by decide), clN (show 24 < 2 ^ 31 by decide), row24 hR, le]
          exact hQ M hY Fy.rfl'
        | succ d ih =>
          intro j hj v3 h3
          have nle : ¬ nI (S.1 24) ≤ nI j := nI_ge (by omega) (by omega)
          have ha1 := hI.1.ap1 j (by omega)
          have ha9 := hI.1.ap9 j (by omega)
          have hb1 := hI.1.band (31 + 2 * (S.1 (25 + j) - 1)) (by omega) (by omega)
          have hb2 := hI.1.band (32 + 2 * (S.1 (25 + j) - 1)) (by omega) (by omega)
          have hp := pass_le (p := S.1) (t := j) hn
          have zc : (nI (S.1 (31 + 2 * (S.1 (25 + j) - 1))) ≤ nI (passN S.1 j) ∧ nI (passN S.1 j) ≤ nI (S.1 (32 + 2 * (S.1 (25 + j) - 1)))) ↔ (S.1 (31 + 2 * (S.1 (25 + j) - 1)) ≤ passN S.1 j ∧ passN S.1 j ≤ S.1 (32 + 2 * (S.1 (25 + j) - 1))) := by
            rw [nI_le_iff (by omega) (by omega), nI_le_iff (by omega) (by omega)]
          have ei : nI (31 + 2 * S.1 (25 + j)) - nI 2 = nI (31 + 2 * (S.1 (25 + j) - 1)) := by
            rw [pk_sub (by omega)]
            exact congrArg nI (by omega)
          have el : M 167 (31 + 2 * (S.1 (25 + j) - 1)) = nI (S.1 (31 + 2 * (S.1 (25 + j) - 1))) := hR _ (by omega)
          have eh : M 167 (31 + 2 * (S.1 (25 + j) - 1) + 1) = nI (S.1 (32 + 2 * (S.1 (25 + j) - 1))) := by
            rw [hR _ (by omega)]
            exact congrArg (fun z => nI (S.1 z)) (by omega)
          have ih := ih (j + 1) (by omega) (.int (nI (31 + 2 * (S.1 (25 + j) - 1)))) rfl
          rw [e111_14]
          simp only [e111_0, e111_1, e111_4, e111_7, e111_9, e111_10, e111_11, e111_12, e111_13, e111_15, e111_16, e111_19, e111_21, e111_22, e111_25, e111_27, e111_28, e111_29, e111_32, e111_34, e111_35, e111_36, e111_37, e111_38, e111_39, e111_40, e111_41, e111_42, e111_43, e111_44, e111_45, e111_48, e111_49, e111_52, e111_53, e111_54, e111_55, e111_58, e111_59, e111_60, e111_61, e111_62, e111_65, e111_68, e111_69, e111_72, e111_73, e111_74, e111_75, e111_78, e111_81, e111_82, eq_self, kcat_nil, kcat_int, kcat_long, kcat_ref, kNL_int, kNL_ref, kNL_null, Option.toList_some, Option.toList_none, List.nil_append, List.cons_append, Nat.reduceAdd, Nat.reduceLeDiff, Nat.reduceEqDiff, true_and, and_true, true_or, or_true, false_or, or_false, ite_true, ite_false, my1, my2, my7, my12, li24, li25, li31, li2, kin_nI (show 24 < 137 by decide) (by decide), clN (show 24 < 2 ^ 31 by decide), row24 hR, nle, nI_add, pk_mul, kin_nI (show 25 + j < 137 by omega) (by decide), clN (show 25 + j < 2 ^ 31 by omega), hR (25 + j) (by omega), ei, y_passes hR hn (show j < S.1 24 by omega) ht.2.2 hc.2, kin_nI (show 31 + 2 * (S.1 (25 + j) - 1) < 137 by omega) (by decide), clN (show 31 + 2 * (S.1 (25 + j) - 1) < 2 ^ 31 by omega), el, nI_add1, kin_nI (show 31 + 2 * (S.1 (25 + j) - 1) + 1 < 137 by omega) (by decide), clN (show 31 + 2 * (S.1 (25 + j) - 1) + 1 < 2 ^ 31 by omega), eh, y_in, zc]
          by_cases hz : S.1 (31 + 2 * (S.1 (25 + j) - 1)) ≤ passN S.1 j ∧ passN S.1 j ≤ S.1 (32 + 2 * (S.1 (25 + j) - 1))
          · have em : missN S.1 (j + 1) = missN S.1 j := by show missN S.1 j + _ = _; dsimp only; rw [if_pos hz, Nat.add_zero]
            rw [em] at ih
            simp only [hz, and_self, if_true, n10, if_false, Int32.add_zero]
            exact ih
          · have em : missN S.1 (j + 1) = missN S.1 j + 1 := by show missN S.1 j + _ = _; dsimp only; rw [if_neg hz]
            rw [em] at ih
            simp only [hz, if_false, if_true, nI_add1]
            exact ih
      simp only [e111_0, e111_1, e111_4, e111_7, e111_9, e111_10, e111_11, e111_12, e111_13, e111_15, e111_16, e111_19, e111_21, e111_22, e111_25, e111_27, e111_28, e111_29, e111_32, e111_34, e111_35, e111_36, e111_37, e111_38, e111_39, e111_40, e111_41, e111_42, e111_43, e111_44, e111_45, e111_48, e111_49, e111_52, e111_53, e111_54, e111_55, e111_58, e111_59, e111_60, e111_61, e111_62, e111_65, e111_68, e111_69, e111_72, e111_73, e111_74, e111_75, e111_78, e111_81, e111_82, eq_self, kcat_nil, kcat_int, kcat_long, kcat_ref, kNL_int, kNL_ref, kNL_null, Option.toList_some, Option.toList_none, List.nil_append, List.cons_append, Nat.reduceAdd, Nat.reduceLeDiff, Nat.reduceEqDiff, true_and, and_true, true_or, or_true, false_or, or_false, ite_true, ite_false, my1, y_isTold hY.1 hn h49 ht.2.2, hc, and_self, if_true, n10, not_false_eq_true]
      exact loop (S.1 24) 0 (by omega) .null rfl
  · refine ⟨-2, S, hI.mono, fun M Q hX hQ => ?_, fun M Q hY hQ => ?_⟩
    · show kE 52 0 [.ref 0, .null, .null, .null] [] M Q
      simp only [e52_0, e52_1, e52_4, e52_7, e52_10, e52_12, e52_13, e52_14, e52_15, e52_16, e52_18, e52_19, e52_22, e52_25, e52_28, e52_29, e52_32, e52_35, e52_36, e52_37, e52_40, e52_41, e52_42, e52_45, e52_46, e52_49, e52_50, e52_53, e52_56, e52_57, e52_58, e52_59, e52_62, e52_65, e52_66, e52_67, e52_70, e52_73, e52_76, e52_79, e52_82, e52_83, eq_self, kcat_nil, kcat_int, kcat_long, kcat_ref, kNL_int, kNL_ref, kNL_null, Option.toList_some, Option.toList_none, List.nil_append, List.cons_append, Nat.reduceAdd, Nat.reduceLeDiff, Nat.reduceEqDiff, true_and, and_true, true_or, or_true, false_or, or_false, ite_true, ite_false, tp1, tp5, tp18, x_hasCollected st1 hX.1 hn h49 ht.2.2, if_neg hc, not_true_eq_false, if_false]
      exact hQ M hX Fx.rfl'
    · show kE 111 0 [.ref 166, .null, .null, .null] [] M Q
      simp only [e111_0, e111_1, e111_4, e111_7, e111_9, e111_10, e111_11, e111_12, e111_13, e111_15, e111_16, e111_19, e111_21, e111_22, e111_25, e111_27, e111_28, e111_29, e111_32, e111_34, e111_35, e111_36, e111_37, e111_38, e111_39, e111_40, e111_41, e111_42, e111_43, e111_44, e111_45, e111_48, e111_49, e111_52, e111_53, e111_54, e111_55, e111_58, e111_59, e111_60, e111_61, e111_62, e111_65, e111_68, e111_69, e111_72, e111_73, e111_74, e111_75, e111_78, e111_81, e111_82, eq_self, kcat_nil, kcat_int, kcat_long, kcat_ref, kNL_int, kNL_ref, kNL_null, Option.toList_some, Option.toList_none, List.nil_append, List.cons_append, Nat.reduceAdd, Nat.reduceLeDiff, Nat.reduceEqDiff, true_and, and_true, true_or, or_true, false_or, or_false, ite_true, ite_false, my1, y_isTold hY.1 hn h49 ht.2.2, if_neg hc, not_true_eq_false, if_false]
      exact hQ M hY Fy.rfl'
theorem op_modulus : OpOK 53 112 [] := by
  intro S N hN hI
  have n10 : ¬ (1 : Int32) = 0 := by decide
  have nt : ¬ (10 : Int32) = 0 := by decide
  have hn := hI.1.f24
  have h49 := hI.1.f49
  have ht := hI.1.tot
  have hb : ∀ j, modN S.1 j ≤ j * 1000 := fun j => nsum_le (fun k _ => by omega)
  by_cases hc : S.1 49 = 1 ∧ 0 < colN S.1 0
  · have hb6 := hb (S.1 24)
    have ed : nI (modN S.1 (S.1 24)) / nI 10 = nI (modN S.1 (S.1 24) / 10) := pk_div (by omega) (by decide) (by decide)
    have nt' : ¬ nI 10 = 0 := by decide
    refine ⟨nI (modN S.1 (S.1 24) / 10), S, hI.mono, fun M Q hX hQ => ?_, fun M Q hY hQ => ?_⟩
    · show kE 53 0 [.ref 0, .null, .null] [] M Q
      have hR := hX.1
      have e1 : M 1 5 = nI (S.1 24) := hR.f24
      have loop : ∀ d j, j + d = S.1 24 → kE 53 17 [.ref 0, .int (nI (modN S.1 j)), .int (nI j)] [] M Q := by
        intro d
        induction d with
        | zero =>
          intro j hj
          have : j = S.1 24 := by omega
          subst this
          have le : nI (S.1 24) ≤ nI (S.1 24) := nI_le (Nat.le_refl _) (by omega)
          rw [e53_17]
          simp only [e53_0, e53_1, e53_4, e53_7, e53_10, e53_12, e53_13, e53_14, e53_15, e53_16, e53_18, e53_19, e53_22, e53_25, e53_28, e53_29, e53_32, e53_33, e53_36, e53_37, e53_40, e53_41, e53_42, e53_43, e53_46, e53_49, e53_50, e53_52, e53_53, eq_self, kcat_nil, kcat_int, kcat_long, kcat_ref, kNL_int, kNL_ref, kNL_null, Option.toList_some, Option.toList_none, List.nil_append, List.cons_append, Nat.reduceAdd, Nat.reduceLeDiff, Nat.reduceEqDiff, true_and, and_true, true_or, or_true, false_or, or_false, ite_true, ite_false, tp1, tp5, tp18, e1, le, li10, nt', not_false_eq_true, ed]
          exact hQ M hX Fx.rfl'
        | succ d ih =>
          intro j hj
          have nle : ¬ nI (S.1 24) ≤ nI j := nI_ge (by omega) (by omega)
          have hp := pass_le (p := S.1) (t := j) hn
          have em : nI 1000 - nI (passN S.1 j) = nI (1000 - passN S.1 j) := pk_sub hp
          have ih := ih (j + 1) (by omega)
          rw [e53_17]
          simp only [e53_0, e53_1, e53_4, e53_7, e53_10, e53_12, e53_13, e53_14, e53_15, e53_16, e53_18, e53_19, e53_22, e53_25, e53_28, e53_29, e53_32, e53_33, e53_36, e53_37, e53_40, e53_41, e53_42, e53_43, e53_46, e53_49, e53_50, e53_52, e53_53, eq_self, kcat_nil, kcat_int, kcat_long, kcat_ref, kNL_int, kNL_ref, kNL_null, Option.toList_some, Option.toList_none, List.nil_append, List.cons_append, Nat.reduceAdd, Nat.reduceLeDiff, Nat.reduceEqDiff, true_and, and_true, true_or, or_true, false_or, or_false, ite_true, ite_false, tp1, tp5, tp18, e1, nle, x_passingOf st1 hR hn (show j < S.1 24 by omega) ht.2.2 hc.2, li1000, em, nI_add, nI_add1]
          exact ih
      simp only [e53_0, e53_1, e53_4, e53_7, e53_10, e53_12, e53_13, e53_14, e53_15, e53_16, e53_18, e53_19, e53_22, e53_25, e53_28, e53_29, e53_32, e53_33, e53_36, e53_37, e53_40, e53_41, e53_42, e53_43, e53_46, e53_49, e53_50, e53_52, e53_53, eq_self, kcat_nil, kcat_int, kcat_long, kcat_ref, kNL_int, kNL_ref, kNL_null, Option.toList_some, Option.toList_none, List.nil_append, List.cons_append, Nat.reduceAdd, Nat.reduceLeDiff, Nat.reduceEqDiff, true_and, and_true, true_or, or_true, false_or, or_false, ite_true, ite_false, tp1, tp5, tp18, x_hasCollected st1 hX.1 hn h49 ht.2.2, hc, and_self, if_true, n10, not_false_eq_true]
      exact loop (S.1 24) 0 (by omega)
    · show kE 112 0 [.ref 166, .null, .null] [] M Q
      have hR := hY.1
      have loop : ∀ d j, j + d = S.1 24 → kE 112 14 [.ref 166, .int (nI (modN S.1 j)), .int (nI j)] [] M Q := by
        intro d
        induction d with
        | zero =>
          intro j hj
          have : j = S.1 24 := by omega
          subst this
          have le : nI (S.1 24) ≤ nI (S.1 24) := nI_le (Nat.le_refl _) (by omega)
          rw [e112_14]
          simp only [e112_0, e112_1, e112_4, e112_7, e112_9, e112_10, e112_11, e112_12, e112_13, e112_15, e112_16, e112_19, e112_21, e112_22, e112_25, e112_26, e112_29, e112_30, e112_31, e112_34, e112_35, e112_36, e112_37, e112_40, e112_43, e112_44, e112_46, e112_47, eq_self, kcat_nil, kcat_int, kcat_long, kcat_ref, kNL_int, kNL_ref, kNL_null, Option.toList_some, Option.toList_none, List.nil_append, List.cons_append, Nat.reduceAdd, Nat.reduceLeDiff, Nat.reduceEqDiff, true_and, and_true, true_or, or_true, false_or, or_false, ite_true, ite_false, my1, my2, my7, my12, li24, kin_nI (show 24 < 137 by decide) (by decide), clN (show 24 < 2 ^ 31 by decide), row24 hR, le, li10, nt', not_false_eq_true, ed]
          exact hQ M hY Fy.rfl'
        | succ d ih =>
          intro j hj
          have nle : ¬ nI (S.1 24) ≤ nI j := nI_ge (by omega) (by omega)
          have hp := pass_le (p := S.1) (t := j) hn
          have em : nI 1000 - nI (passN S.1 j) = nI (1000 - passN S.1 j) := pk_sub hp
          have ih := ih (j + 1) (by omega)
          rw [e112_14]
          simp only [e112_0, e112_1, e112_4, e112_7, e112_9, e112_10, e112_11, e112_12, e112_13, e112_15, e112_16, e112_19, e112_21, e112_22, e112_25, e112_26, e112_29, e112_30, e112_31, e112_34, e112_35, e112_36, e112_37, e112_40, e112_43, e112_44, e112_46, e112_47, eq_self, kcat_nil, kcat_int, kcat_long, kcat_ref, kNL_int, kNL_ref, kNL_null, Option.toList_some, Option.toList_none, List.nil_append, List.cons_append, Nat.reduceAdd, Nat.reduceLeDiff, Nat.reduceEqDiff, true_and, and_true, true_or, or_true, false_or, or_false, ite_true, ite_false, my1, my2, my7, my12, li24, kin_nI (show 24 < 137 by decide) (by decide), clN (show 24 < 2 ^ 31 by decide), row24 hR, nle, y_passes hR hn (show j < S.1 24 by omega) ht.2.2 hc.2, li1000, em, nI_add, nI_add1]
          exact ih
      simp only [e112_0, e112_1, e112_4, e112_7, e112_9, e112_10, e112_11, e112_12, e112_13, e112_15, e112_16, e112_19, e112_21, e112_22, e112_25, e112_26, e112_29, e112_30, e112_31, e112_34, e112_35, e112_36, e112_37, e112_40, e112_43, e112_44, e112_46, e112_47, eq_self, kcat_nil, kcat_int, kcat_long, kcat_ref, kNL_int, kNL_ref, kNL_null, Option.toList_some, Option.toList_none, List.nil_append, List.cons_append, Nat.reduceAdd, Nat.reduceLeDiff, Nat.reduceEqDiff, true_and, and_true, true_or, or_true, false_or, or_false, ite_true, ite_false, my1, y_isTold hY.1 hn h49 ht.2.2, hc, and_self, if_true, n10, not_false_eq_true]
      exact loop (S.1 24) 0 (by omega)
  · refine ⟨-2, S, hI.mono, fun M Q hX hQ => ?_, fun M Q hY hQ => ?_⟩
    · show kE 53 0 [.ref 0, .null, .null] [] M Q
      simp only [e53_0, e53_1, e53_4, e53_7, e53_10, e53_12, e53_13, e53_14, e53_15, e53_16, e53_18, e53_19, e53_22, e53_25, e53_28, e53_29, e53_32, e53_33, e53_36, e53_37, e53_40, e53_41, e53_42, e53_43, e53_46, e53_49, e53_50, e53_52, e53_53, eq_self, kcat_nil, kcat_int, kcat_long, kcat_ref, kNL_int, kNL_ref, kNL_null, Option.toList_some, Option.toList_none, List.nil_append, List.cons_append, Nat.reduceAdd, Nat.reduceLeDiff, Nat.reduceEqDiff, true_and, and_true, true_or, or_true, false_or, or_false, ite_true, ite_false, tp1, tp5, tp18, x_hasCollected st1 hX.1 hn h49 ht.2.2, if_neg hc, not_true_eq_false, if_false]
      exact hQ M hX Fx.rfl'
    · show kE 112 0 [.ref 166, .null, .null] [] M Q
      simp only [e112_0, e112_1, e112_4, e112_7, e112_9, e112_10, e112_11, e112_12, e112_13, e112_15, e112_16, e112_19, e112_21, e112_22, e112_25, e112_26, e112_29, e112_30, e112_31, e112_34, e112_35, e112_36, e112_37, e112_40, e112_43, e112_44, e112_46, e112_47, eq_self, kcat_nil, kcat_int, kcat_long, kcat_ref, kNL_int, kNL_ref, kNL_null, Option.toList_some, Option.toList_none, List.nil_append, List.cons_append, Nat.reduceAdd, Nat.reduceLeDiff, Nat.reduceEqDiff, true_and, and_true, true_or, or_true, false_or, or_false, ite_true, ite_false, my1, y_isTold hY.1 hn h49 ht.2.2, if_neg hc, not_true_eq_false, if_false]
      exact hQ M hY Fy.rfl'
theorem Inv.smp {p : NR} {N : Nat} (h : Inv p N) : ∀ k, k < 10 → p k ≤ 9999 := h.1
theorem sum0_le {p : NR} {N : Nat} (h : Inv p N) : sumN p 0 ≤ 99990 := nsum_le (c := 9999) (fun k hk => by rw [Nat.zero_add]; exact h.1 k hk)
theorem op_truePassing (x : Int32) : OpOK 54 113 [.int x] := by
  intro S N hN hI
  have n10 : ¬ (1 : Int32) = 0 := by decide
  have hs := sum0_le hI.1
  rcases rng x 1 9 (by decide) (by decide) with h | ⟨a, h1, h9, rfl⟩
  · have h' : ¬ (1 ≤ x ∧ x ≤ 9) := h
    refine ⟨-1, S, hI.mono, fun M Q hX hQ => ?_, fun M Q hY hQ => ?_⟩
    · show kE 54 0 [.ref 0, .int x, .null, .null, .null] [] M Q
      simp only [e54_0, e54_1, e54_2, e54_4, e54_7, e54_10, e54_11, e54_12, e54_13, e54_16, e54_19, e54_22, e54_23, e54_24, e54_27, e54_29, e54_30, e54_31, e54_32, e54_33, e54_37, e54_38, e54_41, e54_42, e54_43, e54_46, e54_49, e54_51, e54_52, e54_53, e54_54, e54_57, e54_60, e54_61, e54_62, e54_65, eq_self, kcat_nil, kcat_int, kcat_long, kcat_ref, kNL_int, kNL_ref, kNL_null, Option.toList_some, Option.toList_none, List.nil_append, List.cons_append, Nat.reduceAdd, Nat.reduceLeDiff, Nat.reduceEqDiff, true_and, and_true, true_or, or_true, false_or, or_false, ite_true, ite_false, x_isIn, h', if_false, not_true_eq_false]
      exact hQ M hX Fx.rfl'
    · show kE 113 0 [.ref 166, .int x, .null, .null, .null, .null] [] M Q
      simp only [e113_0, e113_1, e113_2, e113_4, e113_7, e113_10, e113_11, e113_12, e113_13, e113_14, e113_17, e113_18, e113_19, e113_22, e113_24, e113_25, e113_26, e113_27, e113_28, e113_32, e113_33, e113_36, e113_37, e113_38, e113_41, e113_42, e113_44, e113_45, e113_46, e113_47, e113_48, e113_49, e113_52, e113_55, e113_56, e113_59, e113_60, e113_61, e113_62, e113_63, e113_64, eq_self, kcat_nil, kcat_int, kcat_long, kcat_ref, kNL_int, kNL_ref, kNL_null, Option.toList_some, Option.toList_none, List.nil_append, List.cons_append, Nat.reduceAdd, Nat.reduceLeDiff, Nat.reduceEqDiff, true_and, and_true, true_or, or_true, false_or, or_false, ite_true, ite_false, y_in, h', if_false, not_true_eq_false]
      exact hQ M hY Fy.rfl'
  have c : (1 : Int32) ≤ nI a ∧ nI a ≤ 9 := rng_in (lo := 1) (hi := 9) h1 h9 (by decide)
  have z : (nI (sumN S.1 0) = 0) ↔ sumN S.1 0 = 0 := nI_eq_iff (b := 0) (by omega) (by decide)
  by_cases h0 : sumN S.1 0 = 0
  · refine ⟨-2, S, hI.mono, fun M Q hX hQ => ?_, fun M Q hY hQ => ?_⟩
    · show kE 54 0 [.ref 0, .int (nI a), .null, .null, .null] [] M Q
      simp only [e54_0, e54_1, e54_2, e54_4, e54_7, e54_10, e54_11, e54_12, e54_13, e54_16, e54_19, e54_22, e54_23, e54_24, e54_27, e54_29, e54_30, e54_31, e54_32, e54_33, e54_37, e54_38, e54_41, e54_42, e54_43, e54_46, e54_49, e54_51, e54_52, e54_53, e54_54, e54_57, e54_60, e54_61, e54_62, e54_65, eq_self, kcat_nil, kcat_int, kcat_long, kcat_ref, kNL_int, kNL_ref, kNL_null, Option.toList_some, Option.toList_none, List.nil_append, List.cons_append, Nat.reduceAdd, Nat.reduceLeDiff, Nat.reduceEqDiff, true_and, and_true, true_or, or_true, false_or, or_false, ite_true, ite_false, x_isIn, c, and_self, n10, not_false_eq_true, tp1, tp5, tp18, tp20, x_sum2 hX.1, z, h0, not_true_eq_false, if_true, if_false]
      exact hQ M hX Fx.rfl'
    · show kE 113 0 [.ref 166, .int (nI a), .null, .null, .null, .null] [] M Q
      have ys : ∀ Q', kE 69 0 [.ref 166, .int 0, .null, .null] [] M Q' = Q' (some (.int (nI (sumN S.1 0)))) M := fun Q' => y_sum (f := 0) hY.1 (by decide)
      simp only [e113_0, e113_1, e113_2, e113_4, e113_7, e113_10, e113_11, e113_12, e113_13, e113_14, e113_17, e113_18, e113_19, e113_22, e113_24, e113_25, e113_26, e113_27, e113_28, e113_32, e113_33, e113_36, e113_37, e113_38, e113_41, e113_42, e113_44, e113_45, e113_46, e113_47, e113_48, e113_49, e113_52, e113_55, e113_56, e113_59, e113_60, e113_61, e113_62, e113_63, e113_64, eq_self, kcat_nil, kcat_int, kcat_long, kcat_ref, kNL_int, kNL_ref, kNL_null, Option.toList_some, Option.toList_none, List.nil_append, List.cons_append, Nat.reduceAdd, Nat.reduceLeDiff, Nat.reduceEqDiff, true_and, and_true, true_or, or_true, false_or, or_false, ite_true, ite_false, y_in, c, and_self, n10, not_false_eq_true, my1, ys, z, h0, not_true_eq_false, if_true, if_false]
      exact hQ M hY Fy.rfl'
  obtain ⟨f, hf⟩ : ∃ f : Nat → Nat, f = fun j => nsum (fun k => S.1 k) j := ⟨_, rfl⟩
  have hfle : ∀ j, j ≤ 10 → f j ≤ 99990 := fun j hj => by
    rw [hf]
    have := nsum_le_n (f := fun k => S.1 k) (show j ≤ 10 by omega)
    have e : sumN S.1 0 = nsum (fun k => S.1 k) 10 := nsum_congr (fun k _ => by rw [Nat.zero_add])
    dsimp only
    omega
  refine ⟨nI (f a * 1000 / sumN S.1 0), S, hI.mono, fun M Q hX hQ => ?_, fun M Q hY hQ => ?_⟩
  · show kE 54 0 [.ref 0, .int (nI a), .null, .null, .null] [] M Q
    have hR := hX.1
    have loop : ∀ d j, j + d = a → kE 54 35 [.ref 0, .int (nI a), .int (nI (sumN S.1 0)), .int (nI (f j)), .int (nI j)] [] M Q := by
      intro d
      induction d with
      | zero =>
        intro j hj
        have : j = a := by omega
        subst this
        have le : nI j ≤ nI j := nI_le (Nat.le_refl _) (by omega)
        have hz : ¬ nI (sumN S.1 0) ≤ 0 := by rw [show (0 : Int32) = nI 0 from rfl, nI_le_iff (by omega) (by decide)]; omega
        have hf1 := hfle j (by omega)
        rw [e54_35]
        simp only [e54_0, e54_1, e54_2, e54_4, e54_7, e54_10, e54_11, e54_12, e54_13, e54_16, e54_19, e54_22, e54_23, e54_24, e54_27, e54_29, e54_30, e54_31, e54_32, e54_33, e54_37, e54_38, e54_41, e54_42, e54_43, e54_46, e54_49, e54_51, e54_52, e54_53, e54_54, e54_57, e54_60, e54_61, e54_62, e54_65, eq_self, kcat_nil, kcat_int, kcat_long, kcat_ref, kNL_int, kNL_ref, kNL_null, Option.toList_some, Option.toList_none, List.nil_append, List.cons_append, Nat.reduceAdd, Nat.reduceLeDiff, Nat.reduceEqDiff, true_and, and_true, true_or, or_true, false_or, or_false, ite_true, ite_false, le, x_perThousand, hz]
        rw [li1000, pk_mul, pk_div (by omega) (by omega) (by omega)]
        exact hQ M hX Fx.rfl'
      | succ d ih =>
        intro j hj
        have nle : ¬ nI a ≤ nI j := nI_ge (by omega) (by omega)
        have e : M 2 j = nI (S.1 j) := hR.smp (by omega)
        have ih := ih (j + 1) (by omega)
        have ef : f (j + 1) = f j + S.1 j := by rw [hf]; rfl
        rw [e54_35]
        simp only [e54_0, e54_1, e54_2, e54_4, e54_7, e54_10, e54_11, e54_12, e54_13, e54_16, e54_19, e54_22, e54_23, e54_24, e54_27, e54_29, e54_30, e54_31, e54_32, e54_33, e54_37, e54_38, e54_41, e54_42, e54_43, e54_46, e54_49, e54_51, e54_52, e54_53, e54_54, e54_57, e54_60, e54_61, e54_62, e54_65, eq_self, kcat_nil, kcat_int, kcat_long, kcat_ref, kNL_int, kNL_ref, kNL_null, Option.toList_some, Option.toList_none, List.nil_append, List.cons_append, Nat.reduceAdd, Nat.reduceLeDiff, Nat.reduceEqDiff, true_and, and_true, true_or, or_true, false_or, or_false, ite_true, ite_false, nle, tp1, tp5, tp18, tp20, tp25, tp30, kin_nI (show j < 10 by omega) (by decide), clN (show j < 2 ^ 31 by omega), e, nI_add, nI_add1]
        rw [← ef]
        exact ih
    have L := loop a 0 (by omega)
    have e0 : f 0 = 0 := by rw [hf]; rfl
    rw [e0] at L
    simp only [e54_0, e54_1, e54_2, e54_4, e54_7, e54_10, e54_11, e54_12, e54_13, e54_16, e54_19, e54_22, e54_23, e54_24, e54_27, e54_29, e54_30, e54_31, e54_32, e54_33, e54_37, e54_38, e54_41, e54_42, e54_43, e54_46, e54_49, e54_51, e54_52, e54_53, e54_54, e54_57, e54_60, e54_61, e54_62, e54_65, eq_self, kcat_nil, kcat_int, kcat_long, kcat_ref, kNL_int, kNL_ref, kNL_null, Option.toList_some, Option.toList_none, List.nil_append, List.cons_append, Nat.reduceAdd, Nat.reduceLeDiff, Nat.reduceEqDiff, true_and, and_true, true_or, or_true, false_or, or_false, ite_true, ite_false, x_isIn, c, and_self, n10, not_false_eq_true, tp1, tp5, tp18, tp20, x_sum2 hX.1, z, h0, if_true]
    exact L
  · show kE 113 0 [.ref 166, .int (nI a), .null, .null, .null, .null] [] M Q
    have hR := hY.1
    have ys : ∀ Q', kE 69 0 [.ref 166, .int 0, .null, .null] [] M Q' = Q' (some (.int (nI (sumN S.1 0)))) M := fun Q' => y_sum (f := 0) hY.1 (by decide)
    have loop : ∀ d j, j + d = a → kE 113 30 [.ref 166, .int (nI a), .int (nI (sumN S.1 0)), .long (lN (f j)), .null, .int (nI j)] [] M Q := by
      intro d
      induction d with
      | zero =>
        intro j hj
        have : j = a := by omega
        subst this
        have le : nI j ≤ nI j := nI_le (Nat.le_refl _) (by omega)
        have hz : ¬ lN (sumN S.1 0) = 0 := by rw [show (0 : Int64) = lN 0 from rfl, pk_lEQ (by omega) (by decide)]; omega
        have hf1 := hfle j (by omega)
        rw [e113_30]
        simp only [e113_0, e113_1, e113_2, e113_4, e113_7, e113_10, e113_11, e113_12, e113_13, e113_14, e113_17, e113_18, e113_19, e113_22, e113_24, e113_25, e113_26, e113_27, e113_28, e113_32, e113_33, e113_36, e113_37, e113_38, e113_41, e113_42, e113_44, e113_45, e113_46, e113_47, e113_48, e113_49, e113_52, e113_55, e113_56, e113_59, e113_60, e113_61, e113_62, e113_63, e113_64, eq_self, kcat_nil, kcat_int, kcat_long, kcat_ref, kNL_int, kNL_ref, kNL_null, Option.toList_some, Option.toList_none, List.nil_append, List.cons_append, Nat.reduceAdd, Nat.reduceLeDiff, Nat.reduceEqDiff, true_and, and_true, true_or, or_true, false_or, or_false, ite_true, ite_false, le, nI_l (show sumN S.1 0 < 2 ^ 31 by omega), hz, not_false_eq_true]
        rw [show (1000 : Int64) = lN 1000 from rfl, lN_mul, pk_lDiv (by omega) (by omega) (by omega), lN_i]
        exact hQ M hY Fy.rfl'
      | succ d ih =>
        intro j hj
        have nle : ¬ nI a ≤ nI j := nI_ge (by omega) (by omega)
        have z0 : (0 : Int32) + nI j = nI j := Int32.zero_add _
        have hsj := hI.1.smp j (by omega)
        have ih := ih (j + 1) (by omega)
        have ef : f (j + 1) = f j + S.1 j := by rw [hf]; rfl
        rw [e113_30]
        simp only [e113_0, e113_1, e113_2, e113_4, e113_7, e113_10, e113_11, e113_12, e113_13, e113_14, e113_17, e113_18, e113_19, e113_22, e113_24, e113_25, e113_26, e113_27, e113_28, e113_32, e113_33, e113_36, e113_37, e113_38, e113_41, e113_42, e113_44, e113_45, e113_46, e113_47, e113_48, e113_49, e113_52, e113_55, e113_56, e113_59, e113_60, e113_61, e113_62, e113_63, e113_64, eq_self, kcat_nil, kcat_int, kcat_long, kcat_ref, kNL_int, kNL_ref, kNL_null, Option.toList_some, Option.toList_none, List.nil_append, List.cons_append, Nat.reduceAdd, Nat.reduceLeDiff, Nat.reduceEqDiff, true_and, and_true, true_or, or_true, false_or, or_false, ite_true, ite_false, nle, my1, my2, my7, my12, z0, kin_nI (show j < 137 by omega) (by decide), clN (show j < 2 ^ 31 by omega), hR j (by omega), nI_l (show S.1 j < 2 ^ 31 by omega), lN_add, nI_add1]
        rw [← ef]
        exact ih
    have L := loop a 0 (by omega)
    have e0 : f 0 = 0 := by rw [hf]; rfl
    rw [e0] at L
    simp only [e113_0, e113_1, e113_2, e113_4, e113_7, e113_10, e113_11, e113_12, e113_13, e113_14, e113_17, e113_18, e113_19, e113_22, e113_24, e113_25, e113_26, e113_27, e113_28, e113_32, e113_33, e113_36, e113_37, e113_38, e113_41, e113_42, e113_44, e113_45, e113_46, e113_47, e113_48, e113_49, e113_52, e113_55, e113_56, e113_59, e113_60, e113_61, e113_62, e113_63, e113_64, eq_self, kcat_nil, kcat_int, kcat_long, kcat_ref, kNL_int, kNL_ref, kNL_null, Option.toList_some, Option.toList_none, List.nil_append, List.cons_append, Nat.reduceAdd, Nat.reduceLeDiff, Nat.reduceEqDiff, true_and, and_true, true_or, or_true, false_or, or_false, ite_true, ite_false, y_in, c, and_self, n10, not_false_eq_true, my1, ys, z, h0, if_true]
    exact L
