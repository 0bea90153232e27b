/-! collecting and brushing -/
theorem Inv.mv {p q : NR} {N N' : Nat} (h : Inv p N) (hN : N ≤ N') (ho : ∀ i, i < 51 → q i = p i) (h51 : q 51 ≤ 200 * N') (h52 : q 52 ≤ 1000000) (ht : totN q ≤ totN p) (hs : ∀ t, t < 7 → p 24 ≤ t → q (53 + 12 * t + 10) = 0) : Inv q N' := by
  obtain ⟨g1, g2, g3, g4, g5, g6, g7, g8, g9, g10, g11, g12, g13, g14, g15, g16⟩ := h
  refine ⟨fun k hk => by rw [ho k (by omega)]; exact g1 k hk, fun k hk => by rw [ho _ (by omega)]; exact Nat.le_trans (g2 k hk) (Nat.mul_le_mul_left _ hN), by rw [ho 20 (by omega)]; exact g3, by rw [ho 21 (by omega)]; exact g4, by rw [ho 22 (by omega)]; exact g5, by rw [ho 23 (by omega)]; exact g6, by rw [ho 24 (by omega)]; exact g7, fun t ht => ?_, fun t ht => by rw [ho _ (by omega)]; exact g9 t ht, fun i h1 h2 => by rw [ho i (by omega)]; exact g10 i h1 h2, by rw [ho 49 (by omega)]; exact g11, by rw [ho 50 (by omega)]; exact g12, h51, h52, by rw [ho 50 (by omega)]; omega, fun t ht h => hs t ht (by rw [← ho 24 (by omega)]; exact h)⟩
  rw [ho 24 (by omega)] at ht
  rw [ho _ (by omega)]
  exact g8 t ht
theorem Inv.f51 {p : NR} {N : Nat} (h : Inv p N) : p 51 ≤ 200 * N := h.2.2.2.2.2.2.2.2.2.2.2.2.1
theorem Inv.f52 {p : NR} {N : Nat} (h : Inv p N) : p 52 ≤ 1000000 := h.2.2.2.2.2.2.2.2.2.2.2.2.2.1
theorem Inv.stk0 {p : NR} {N : Nat} (h : Inv p N) : ∀ t, t < 7 → p 24 ≤ t → p (53 + 12 * t + 10) = 0 := h.2.2.2.2.2.2.2.2.2.2.2.2.2.2.2
def cltN (p : NR) (t : Nat) : NR := fun i => if 53 + 12 * t ≤ i ∧ i < 53 + 12 * t + 10 then 0 else nu p (53 + 12 * t + 11) (p (53 + 12 * t + 11) + sumN p (53 + 12 * t)) i
theorem clt_Inv {p : NR} {N t : Nat} (h : Inv p N) (ht : t < 7) : Inv (cltN p t) N := by
  have lo : ∀ i, i < 53 → cltN p t i = p i := fun i hi => by
    unfold cltN
    rw [if_neg (by omega), nu_ne (by omega)]
  have sk : ∀ s, cltN p t (53 + 12 * s + 10) = p (53 + 12 * s + 10) := fun s => by
    unfold cltN
    rw [if_neg (by omega), nu_ne (by omega)]
  refine h.mv (Nat.le_refl _) (fun i hi => lo i (by omega)) (by rw [lo 51 (by decide)]; exact h.f51) (by rw [lo 52 (by decide)]; exact h.f52) ?_ (fun s hs hn => by rw [sk]; exact h.stk0 s hs hn)
  rw [tot_block, tot_block]
  refine Nat.le_of_eq (nsum_congr (fun s hs => ?_))
  rw [sk]
  by_cases hst : s = t
  · subst hst
    have e1 : sumN (cltN p s) (53 + 12 * s) = 0 := nsum_zero (fun k hk => by unfold cltN; rw [if_pos (by omega)])
    have e2 : cltN p s (53 + 12 * s + 11) = p (53 + 12 * s + 11) + sumN p (53 + 12 * s) := by
      unfold cltN
      rw [if_neg (by omega), nu_eq]
    rw [e1, e2]
    omega
  · have e1 : sumN (cltN p t) (53 + 12 * s) = sumN p (53 + 12 * s) := nsum_congr (fun k hk => by unfold cltN; rw [if_neg (by omega), nu_ne (by omega)])
    have e2 : cltN p t (53 + 12 * s + 11) = p (53 + 12 * s + 11) := by
      unfold cltN
      rw [if_neg (by omega), nu_ne (by omega)]
    rw [e1, e2]
theorem op_collect (x : Int32) : OpOK 47 102 [.int x] := by
  intro S N hN hI
  have n10 : ¬ (1 : Int32) = 0 := by decide
  have hn := hI.1.f24
  have z := z49 hI.1
  rcases rng x 0 (S.1 24) (by omega) (by decide) with h | ⟨t, _, ht, rfl⟩
  · have h' : ¬ (0 ≤ x ∧ x ≤ nI (S.1 24)) := h
    refine ⟨-1, S, hI.mono, fun M Q hX hQ => ?_, fun M Q hY hQ => ?_⟩
    · show kE 47 0 [.ref 0, .int x, .null, .null] [] M Q
      have e1 : M 1 5 = nI (S.1 24) := hX.1.f24
      simp only [e47_0, e47_1, e47_4, e47_5, e47_8, e47_11, e47_12, e47_13, e47_14, e47_17, e47_20, e47_23, e47_25, e47_26, e47_27, e47_30, e47_31, e47_34, e47_37, e47_38, e47_39, e47_40, e47_41, e47_44, e47_47, e47_48, e47_49, e47_49r, e47_50, e47_53, e47_54, e47_55, e47_58, e47_59, e47_62, e47_65, e47_66, eq_self, kcat_nil, kcat_int, kcat_long, kcat_ref, kNL_int, kNL_ref, kNL_null, Option.toList_some, Option.toList_none, List.nil_append, List.cons_append, Nat.reduceAdd, Nat.reduceLeDiff, Nat.reduceEqDiff, true_and, and_true, true_or, or_true, false_or, or_false, ite_true, ite_false, tp1, tp5, tp18, x_isTray st1, e1, h', if_false, not_true_eq_false]
      exact hQ M hX Fx.rfl'
    · show kE 102 0 [.ref 166, .int x, .null, .null] [] M Q
      simp only [e102_0, e102_1, e102_2, e102_5, e102_8, e102_9, e102_10, e102_11, e102_14, e102_16, e102_17, e102_20, e102_22, e102_23, e102_24, e102_27, e102_28, e102_29, e102_30, e102_33, e102_36, e102_37, e102_38, e102_40, e102_42, e102_45, e102_46, e102_49, e102_50, e102_51, e102_54, e102_55, e102_56, e102_57, e102_58, e102_61, e102_64, e102_65, e102_68, e102_69, e102_70, e102_73, e102_75, e102_76, e102_77, e102_78, e102_79, e102_80, e102_81, e102_82, eq_self, kcat_nil, kcat_int, kcat_long, kcat_ref, kNL_int, kNL_ref, kNL_null, Option.toList_some, Option.toList_none, List.nil_append, List.cons_append, Nat.reduceAdd, Nat.reduceLeDiff, Nat.reduceEqDiff, true_and, and_true, true_or, or_true, false_or, or_false, ite_true, ite_false, my1, y_isTray, row24 hY.1, h', if_false, not_true_eq_false]
      exact hQ M hY Fy.rfl'
  have c : (0 : Int32) ≤ nI t ∧ nI t ≤ nI (S.1 24) := rng_in (by omega) ht (by omega)
  by_cases h49 : S.1 49 = 0
  · refine ⟨-2, S, hI.mono, fun M Q hX hQ => ?_, fun M Q hY hQ => ?_⟩
    · show kE 47 0 [.ref 0, .int (nI t), .null, .null] [] M Q
      have e1 : M 1 5 = nI (S.1 24) := hX.1.f24
      have e2 : M 1 10 = nI (S.1 49) := hX.1.f49
      simp only [e47_0, e47_1, e47_4, e47_5, e47_8, e47_11, e47_12, e47_13, e47_14, e47_17, e47_20, e47_23, e47_25, e47_26, e47_27, e47_30, e47_31, e47_34, e47_37, e47_38, e47_39, e47_40, e47_41, e47_44, e47_47, e47_48, e47_49, e47_49r, e47_50, e47_53, e47_54, e47_55, e47_58, e47_59, e47_62, e47_65, e47_66, eq_self, kcat_nil, kcat_int, kcat_long, kcat_ref, kNL_int, kNL_ref, kNL_null, Option.toList_some, Option.toList_none, List.nil_append, List.cons_append, Nat.reduceAdd, Nat.reduceLeDiff, Nat.reduceEqDiff, true_and, and_true, true_or, or_true, false_or, or_false, ite_true, ite_false, tp1, tp5, tp18, x_isTray st1, e1, e2, c, and_self, n10, not_false_eq_true, z, h49, if_false, not_true_eq_false]
      exact hQ M hX Fx.rfl'
    · show kE 102 0 [.ref 166, .int (nI t), .null, .null] [] M Q
      have r49 : M 167 49 = nI (S.1 49) := hY.1 49 (by decide)
      simp only [e102_0, e102_1, e102_2, e102_5, e102_8, e102_9, e102_10, e102_11, e102_14, e102_16, e102_17, e102_20, e102_22, e102_23, e102_24, e102_27, e102_28, e102_29, e102_30, e102_33, e102_36, e102_37, e102_38, e102_40, e102_42, e102_45, e102_46, e102_49, e102_50, e102_51, e102_54, e102_55, e102_56, e102_57, e102_58, e102_61, e102_64, e102_65, e102_68, e102_69, e102_70, e102_73, e102_75, e102_76, e102_77, e102_78, e102_79, e102_80, e102_81, e102_82, eq_self, kcat_nil, kcat_int, kcat_long, kcat_ref, kNL_int, kNL_ref, kNL_null, Option.toList_some, Option.toList_none, List.nil_append, List.cons_append, Nat.reduceAdd, Nat.reduceLeDiff, Nat.reduceEqDiff, true_and, and_true, true_or, or_true, false_or, or_false, ite_true, ite_false, my1, my2, my7, my12, y_isTray, row24 hY.1, c, and_self, n10, not_false_eq_true, li49, kin_nI (show 49 < 137 by decide) (by decide), clN (show 49 < 2 ^ 31 by decide), r49, z, h49, if_false, not_true_eq_false]
      exact hQ M hY Fy.rfl'
  obtain ⟨v, hv⟩ : ∃ v, v = sumN S.1 (53 + 12 * t) := ⟨_, rfl⟩
  refine ⟨nI v, (cltN S.1 t, (sav S).2), hI.sav.cur (clt_Inv hI.1 (by omega)).mono, fun M Q hX hQ => ?_, fun M Q hY hQ => ?_⟩
  · show kE 47 0 [.ref 0, .int (nI t), .null, .null] [] M Q
    have e1 : M 1 5 = nI (S.1 24) := hX.1.f24
    have e2 : M 1 10 = nI (S.1 49) := hX.1.f49
    simp only [e47_0, e47_1, e47_4, e47_5, e47_8, e47_11, e47_12, e47_13, e47_14, e47_17, e47_20, e47_23, e47_25, e47_26, e47_27, e47_31, e47_34, e47_37, e47_38, e47_39, e47_40, e47_41, e47_44, e47_47, e47_48, e47_49, e47_49r, e47_50, e47_53, e47_54, e47_55, e47_58, e47_59, e47_62, e47_65, e47_66, eq_self, kcat_nil, kcat_int, kcat_long, kcat_ref, kNL_int, kNL_ref, kNL_null, Option.toList_some, Option.toList_none, List.nil_append, List.cons_append, Nat.reduceAdd, Nat.reduceLeDiff, Nat.reduceEqDiff, true_and, and_true, true_or, or_true, false_or, or_false, ite_true, ite_false, tp1, tp5, tp18, x_isTray st1, e1, e2, c, and_self, n10, not_false_eq_true, z, h49, if_false]
    refine x_saveState hX hI.1.f49 (fun M1 hX1 hF _ _ _ => ?_)
    have hR := hX1.1
    have ht7 : t < 7 := by omega
    have xs : ∀ Q', kE 62 0 [.ref (8 + 2 * t), .null, .null, .null, .null, .null] [] M1 Q' = Q' (some (.int (nI v))) M1 := fun Q' => by
      rw [x_sumOf (kd_l1 ht7) (by rw [ln_l1 ht7]; decide), ln_l1 ht7, hv]
      have := sum_ly hR ht7
      rw [show 1 + 7 + 2 * t = 8 + 2 * t from by omega] at this
      rw [this]
      rfl
    have eco : M1 (7 + 2 * t) 3 = nI (S.1 (53 + 12 * t + 11)) := hR.co ht7
    have xc : ∀ (M : KMem) Q', kE 63 0 [.ref (8 + 2 * t), .null] [] M Q' = Q' none (kclrN M (8 + 2 * t) 10) := fun M Q' => by
      rw [x_clearRow (kd_l1 ht7) (by rw [ln_l1 ht7]; decide), ln_l1 ht7]
    simp only [e47_0, e47_1, e47_4, e47_5, e47_8, e47_11, e47_12, e47_13, e47_14, e47_17, e47_20, e47_23, e47_25, e47_26, e47_27, e47_30, e47_31, e47_34, e47_37, e47_38, e47_39, e47_40, e47_41, e47_44, e47_47, e47_48, e47_49, e47_49r, e47_50, e47_53, e47_54, e47_55, e47_58, e47_59, e47_62, e47_65, e47_66, eq_self, kcat_nil, kcat_int, kcat_long, kcat_ref, kNL_int, kNL_ref, kNL_null, Option.toList_some, Option.toList_none, List.nil_append, List.cons_append, Nat.reduceAdd, Nat.reduceLeDiff, Nat.reduceEqDiff, true_and, and_true, true_or, or_true, false_or, or_false, ite_true, ite_false, tp1, tp5, tp18, tp22, tp27, tp32, tp35, kin_nI (show t < 7 by omega) (by decide), clN (show t < 2 ^ 31 by omega), kd_t1 ht7, rf_t1 ht7, xs, eco, nI_add, xc]
    have s1 := hR.setCo ht7 (nI (S.1 (53 + 12 * t + 11) + v))
    rw [nr_upd] at s1
    have s2 := s1.clrLy ht7 10 (by decide)
    have hO : Off 1 M1 (kclrN (mset M1 (7 + 2 * t) 3 (nI (S.1 (53 + 12 * t + 11) + v))) (8 + 2 * t) 10) := (Off.rfl'.mset (by omega) (by omega)).clr (by omega) (by omega)
    refine hQ _ (hX1.cur hO ?_) (fx1 hF hO)
    have ea : 1 + 6 + 2 * t = 7 + 2 * t := by omega
    have eb : 1 + 7 + 2 * t = 8 + 2 * t := by omega
    rw [ea, eb] at s2
    unfold cltN
    rw [← hv]
    exact s2
  · show kE 102 0 [.ref 166, .int (nI t), .null, .null] [] M Q
    have r49 : M 167 49 = nI (S.1 49) := hY.1 49 (by decide)
    simp only [e102_0, e102_1, e102_2, e102_5, e102_8, e102_9, e102_10, e102_11, e102_14, e102_16, e102_17, e102_20, e102_22, e102_23, e102_24, e102_28, e102_29, e102_30, e102_33, e102_36, e102_37, e102_38, e102_40, e102_42, e102_45, e102_46, e102_49, e102_50, e102_51, e102_54, e102_55, e102_56, e102_57, e102_58, e102_61, e102_64, e102_65, e102_68, e102_69, e102_70, e102_73, e102_75, e102_76, e102_77, e102_78, e102_79, e102_80, e102_81, e102_82, eq_self, kcat_nil, kcat_int, kcat_long, kcat_ref, kNL_int, kNL_ref, kNL_null, Option.toList_some, Option.toList_none, List.nil_append, List.cons_append, Nat.reduceAdd, Nat.reduceLeDiff, Nat.reduceEqDiff, true_and, and_true, true_or, or_true, false_or, or_false, ite_true, ite_false, my1, my2, my7, my12, y_isTray, row24 hY.1, c, and_self, n10, not_false_eq_true, li49, kin_nI (show 49 < 137 by decide) (by decide), clN (show 49 < 2 ^ 31 by decide), r49, z, h49, if_false]
    refine y_notes hY (fun M1 hY1 hF _ _ _ => ?_)
    have hR : RowM M1 S.1 := hY1.1
    have ys : ∀ Q', kE 69 0 [.ref 166, .int (nI (53 + 12 * t)), .null, .null] [] M1 Q' = Q' (some (.int (nI v))) M1 := fun Q' => by rw [hv]; exact y_sum hR (by omega)
    have loop : ∀ d j, j + d = 10 → ∀ M3, RowM M3 (fun i => if 53 + 12 * t ≤ i ∧ i < 53 + 12 * t + j then 0 else S.1 i) → OffY M1 M3 → kE 102 39 [.ref 166, .int (nI t), .int (nI v), .int (nI j)] [] M3 Q := by
      intro d
      induction d with
      | zero =>
        intro j hj M3 hR3 hO3
        have : j = 10 := by omega
        subst this
        have le : (10 : Int32) ≤ nI 10 := by decide
        have rc : M3 167 (53 + 12 * t + 11) = nI (S.1 (53 + 12 * t + 11)) := by rw [hR3 _ (by omega)]; exact congrArg nI (if_neg (by omega))
        rw [e102_39]
        simp only [e102_0, e102_1, e102_2, e102_5, e102_8, e102_9, e102_10, e102_11, e102_14, e102_16, e102_17, e102_20, e102_22, e102_23, e102_24, e102_27, e102_28, e102_29, e102_30, e102_33, e102_36, e102_37, e102_38, e102_40, e102_42, e102_45, e102_46, e102_49, e102_50, e102_51, e102_54, e102_55, e102_56, e102_57, e102_58, e102_61, e102_64, e102_65, e102_68, e102_69, e102_70, e102_73, e102_75, e102_76, e102_77, e102_78, e102_79, e102_80, e102_81, e102_82, eq_self, kcat_nil, kcat_int, kcat_long, kcat_ref, kNL_int, kNL_ref, kNL_null, Option.toList_some, Option.toList_none, List.nil_append, List.cons_append, Nat.reduceAdd, Nat.reduceLeDiff, Nat.reduceEqDiff, true_and, and_true, true_or, or_true, false_or, or_false, ite_true, ite_false, le, my1, my2, my7, my12, y_at, li11, nI_add, kin_nI (show 53 + 12 * t + 11 < 137 by omega) (by decide), clN (show 53 + 12 * t + 11 < 2 ^ 31 by omega), rc]
        refine hQ _ (hY1.cur (hO3.set _ _) ((hR3.set _ _).congr (fun i _ => ?_))) (hF.trans (hO3.set _ _).fy)
        unfold cltN nu
        rw [hv]
        dsimp only
        by_cases c1 : i = 53 + 12 * t + 11
        · rw [if_pos c1, if_pos c1, if_neg (by omega)]
        · rw [if_neg c1, if_neg c1]
      | succ d ih =>
        intro j hj M3 hR3 hO3
        have nle : ¬ (10 : Int32) ≤ nI j := by rw [li10]; exact nI_ge (by omega) (by decide)
        rw [e102_39]
        simp only [e102_0, e102_1, e102_2, e102_5, e102_8, e102_9, e102_10, e102_11, e102_14, e102_16, e102_17, e102_20, e102_22, e102_23, e102_24, e102_27, e102_28, e102_29, e102_30, e102_33, e102_36, e102_37, e102_38, e102_40, e102_42, e102_45, e102_46, e102_49, e102_50, e102_51, e102_54, e102_55, e102_56, e102_57, e102_58, e102_61, e102_64, e102_65, e102_68, e102_69, e102_70, e102_73, e102_75, e102_76, e102_77, e102_78, e102_79, e102_80, e102_81, e102_82, eq_self, kcat_nil, kcat_int, kcat_long, kcat_ref, kNL_int, kNL_ref, kNL_null, Option.toList_some, Option.toList_none, List.nil_append, List.cons_append, Nat.reduceAdd, Nat.reduceLeDiff, Nat.reduceEqDiff, true_and, and_true, true_or, or_true, false_or, or_false, ite_true, ite_false, my1, my2, my7, my12, nle, if_false, y_at, nI_add, nI_add1, kin_nI (show 53 + 12 * t + j < 137 by omega) (by decide), clN (show 53 + 12 * t + j < 2 ^ 31 by omega)]
        refine ih (j + 1) (by omega) _ ((hR3.set (53 + 12 * t + j) 0).congr (fun i _ => ?_)) (hO3.set _ _)
        unfold nu
        dsimp only
        by_cases c1 : i = 53 + 12 * t + j
        · rw [if_pos c1, if_pos (by omega)]
        · rw [if_neg c1]
          by_cases c2 : 53 + 12 * t ≤ i ∧ i < 53 + 12 * t + j
          · rw [if_pos c2, if_pos (by omega)]
          · rw [if_neg c2, if_neg (by omega)]
    simp only [e102_0, e102_1, e102_2, e102_5, e102_8, e102_9, e102_10, e102_11, e102_14, e102_16, e102_17, e102_20, e102_22, e102_23, e102_24, e102_27, e102_28, e102_29, e102_30, e102_33, e102_36, e102_37, e102_38, e102_40, e102_42, e102_45, e102_46, e102_49, e102_50, e102_51, e102_54, e102_55, e102_56, e102_57, e102_58, e102_61, e102_64, e102_65, e102_68, e102_69, e102_70, e102_73, e102_75, e102_76, e102_77, e102_78, e102_79, e102_80, e102_81, e102_82, eq_self, kcat_nil, kcat_int, kcat_long, kcat_ref, kNL_int, kNL_ref, kNL_null, Option.toList_some, Option.toList_none, List.nil_append, List.cons_append, Nat.reduceAdd, Nat.reduceLeDiff, Nat.reduceEqDiff, true_and, and_true, true_or, or_true, false_or, or_false, ite_true, ite_false, my1, y_at, ys]
    exact loop 10 0 rfl M1 (hR.congr (fun i _ => if_neg (by omega))) OffY.rfl'
def brN (p : NR) (t b : Nat) : NR := nu (nu p (53 + 12 * t + 10) 0) (53 + 12 * t + 11) (p (53 + 12 * t + 11) + (if b = 1 then p (53 + 12 * t + 10) else 0))
theorem br_Inv {p : NR} {N t b : Nat} (h : Inv p N) (ht : t < 7) : Inv (brN p t b) N := by
  have lo : ∀ i, i < 53 → brN p t b i = p i := fun i hi => by
    unfold brN
    rw [nu_ne (by omega), nu_ne (by omega)]
  refine h.mv (Nat.le_refl _) (fun i hi => lo i (by omega)) (by rw [lo 51 (by decide)]; exact h.f51) (by rw [lo 52 (by decide)]; exact h.f52) ?_ (fun s hs hn => ?_)
  · have a1 := tot_nu (p := p) (i := 53 + 12 * t + 10) (v := 0) (by omega) (by omega)
    have a2 := tot_nu (p := nu p (53 + 12 * t + 10) 0) (i := 53 + 12 * t + 11) (v := p (53 + 12 * t + 11) + (if b = 1 then p (53 + 12 * t + 10) else 0)) (by omega) (by omega)
    rw [nu_ne (p := p) (by omega)] at a2
    unfold brN
    split at a2 <;> rename_i hb
    · rw [if_pos hb]; omega
    · rw [if_neg hb]; omega
  · unfold brN
    rw [nu_ne (by omega)]
    by_cases hst : s = t
    · subst hst; rw [nu_eq]
    · rw [nu_ne (by omega)]; exact h.stk0 s hs hn
theorem op_brush (x y : Int32) : OpOK 48 103 [.int x, .int y] := by
  intro S N hN hI
  have n10 : ¬ (1 : Int32) = 0 := by decide
  have hn := hI.1.f24
  have z := z49 hI.1
  rcases sieve_rng (x := x) hn with h | ⟨t, ht, rfl⟩
  · refine ⟨-1, S, hI.mono, fun M Q hX hQ => ?_, fun M Q hY hQ => ?_⟩
    · show kE 48 0 [.ref 0, .int x, .int y, .null, .null] [] M Q
      have e1 : M 1 5 = nI (S.1 24) := hX.1.f24
      simp only [e48_0, e48_1, e48_4, e48_5, e48_8, e48_11, e48_12, e48_13, e48_14, e48_17, e48_20, e48_21, e48_22, e48_23, e48_26, e48_29, e48_32, e48_34, e48_35, e48_36, e48_39, e48_40, e48_43, e48_46, e48_47, e48_48, e48_49, e48_50, e48_53, e48_55, e48_56, e48_57, e48_60, e48_61, e48_62, e48_65, e48_66, e48_66r, e48_67, e48_70, e48_72, e48_73, e48_76, e48_78, eq_self, kcat_nil, kcat_int, kcat_long, kcat_ref, kNL_int, kNL_ref, kNL_null, Option.toList_some, Option.toList_none, List.nil_append, List.cons_append, Nat.reduceAdd, Nat.reduceLeDiff, Nat.reduceEqDiff, true_and, and_true, true_or, or_true, false_or, or_false, ite_true, ite_false, tp1, tp5, tp18, x_isSieve st1, e1, h, if_false, if_true]
      exact hQ M hX Fx.rfl'
    · show kE 103 0 [.ref 166, .int x, .int y, .null] [] M Q
      simp only [e103_0, e103_1, e103_2, e103_5, e103_8, e103_9, e103_10, e103_11, e103_14, e103_17, e103_18, e103_19, e103_20, e103_23, e103_25, e103_26, e103_29, e103_31, e103_32, e103_33, e103_36, e103_37, e103_40, e103_41, e103_42, e103_45, e103_47, e103_48, e103_49, e103_50, e103_51, e103_54, e103_55, e103_56, e103_59, e103_61, e103_62, e103_63, e103_64, e103_65, e103_68, e103_69, e103_70, e103_73, e103_75, e103_76, e103_77, e103_78, e103_79, e103_80, e103_83, e103_84, e103_87, e103_88, e103_89, e103_90, e103_91, eq_self, kcat_nil, kcat_int, kcat_long, kcat_ref, kNL_int, kNL_ref, kNL_null, Option.toList_some, Option.toList_none, List.nil_append, List.cons_append, Nat.reduceAdd, Nat.reduceLeDiff, Nat.reduceEqDiff, true_and, and_true, true_or, or_true, false_or, or_false, ite_true, ite_false, my1, y_isSieve, row24 hY.1, h, if_false, if_true]
      exact hQ M hY Fy.rfl'
  have c := sieve_in ht hn
  rcases rng y 0 1 (by decide) (by decide) with h | ⟨b, _, hb, rfl⟩
  · have h' : ¬ (0 ≤ y ∧ y ≤ 1) := h
    refine ⟨-1, S, hI.mono, fun M Q hX hQ => ?_, fun M Q hY hQ => ?_⟩
    · show kE 48 0 [.ref 0, .int (nI t), .int y, .null, .null] [] M Q
      have e1 : M 1 5 = nI (S.1 24) := hX.1.f24
      simp only [e48_0, e48_1, e48_4, e48_5, e48_8, e48_11, e48_12, e48_13, e48_14, e48_17, e48_20, e48_21, e48_22, e48_23, e48_26, e48_29, e48_32, e48_34, e48_35, e48_36, e48_39, e48_40, e48_43, e48_46, e48_47, e48_48, e48_49, e48_50, e48_53, e48_55, e48_56, e48_57, e48_60, e48_61, e48_62, e48_65, e48_66, e48_66r, e48_67, e48_70, e48_72, e48_73, e48_76, e48_78, eq_self, kcat_nil, kcat_int, kcat_long, kcat_ref, kNL_int, kNL_ref, kNL_null, Option.toList_some, Option.toList_none, List.nil_append, List.cons_append, Nat.reduceAdd, Nat.reduceLeDiff, Nat.reduceEqDiff, true_and, and_true, true_or, or_true, false_or, or_false, ite_true, ite_false, tp1, tp5, tp18, x_isSieve st1, e1, c, and_self, n10, if_false, x_isIn, h', not_true_eq_false]
      exact hQ M hX Fx.rfl'
    · show kE 103 0 [.ref 166, .int (nI t), .int y, .null] [] M Q
      simp only [e103_0, e103_1, e103_2, e103_5, e103_8, e103_9, e103_10, e103_11, e103_14, e103_17, e103_18, e103_19, e103_20, e103_23, e103_25, e103_26, e103_29, e103_31, e103_32, e103_33, e103_36, e103_37, e103_40, e103_41, e103_42, e103_45, e103_47, e103_48, e103_49, e103_50, e103_51, e103_54, e103_55, e103_56, e103_59, e103_61, e103_62, e103_63, e103_64, e103_65, e103_68, e103_69, e103_70, e103_73, e103_75, e103_76, e103_77, e103_78, e103_79, e103_80, e103_83, e103_84, e103_87, e103_88, e103_89, e103_90, e103_91, eq_self, kcat_nil, kcat_int, kcat_long, kcat_ref, kNL_int, kNL_ref, kNL_null, Option.toList_some, Option.toList_none, List.nil_append, List.cons_append, Nat.reduceAdd, Nat.reduceLeDiff, Nat.reduceEqDiff, true_and, and_true, true_or, or_true, false_or, or_false, ite_true, ite_false, my1, y_isSieve, row24 hY.1, c, and_self, n10, if_false, y_in, h', not_true_eq_false]
      exact hQ M hY Fy.rfl'
  have c2 : (0 : Int32) ≤ nI b ∧ nI b ≤ 1 := rng_in (lo := 0) (hi := 1) (by omega) hb (by decide)
  by_cases h49 : S.1 49 = 0
  · refine ⟨-2, S, hI.mono, fun M Q hX hQ => ?_, fun M Q hY hQ => ?_⟩
    · show kE 48 0 [.ref 0, .int (nI t), .int (nI b), .null, .null] [] M Q
      have e1 : M 1 5 = nI (S.1 24) := hX.1.f24
      have e2 : M 1 10 = nI (S.1 49) := hX.1.f49
      simp only [e48_0, e48_1, e48_4, e48_5, e48_8, e48_11, e48_12, e48_13, e48_14, e48_17, e48_20, e48_21, e48_22, e48_23, e48_26, e48_29, e48_32, e48_34, e48_35, e48_36, e48_39, e48_40, e48_43, e48_46, e48_47, e48_48, e48_49, e48_50, e48_53, e48_55, e48_56, e48_57, e48_60, e48_61, e48_62, e48_65, e48_66, e48_66r, e48_67, e48_70, e48_72, e48_73, e48_76, e48_78, eq_self, kcat_nil, kcat_int, kcat_long, kcat_ref, kNL_int, kNL_ref, kNL_null, Option.toList_some, Option.toList_none, List.nil_append, List.cons_append, Nat.reduceAdd, Nat.reduceLeDiff, Nat.reduceEqDiff, true_and, and_true, true_or, or_true, false_or, or_false, ite_true, ite_false, tp1, tp5, tp18, x_isSieve st1, e1, e2, c, c2, x_isIn, and_self, n10, not_false_eq_true, z, h49, if_false, not_true_eq_false]
      exact hQ M hX Fx.rfl'
    · show kE 103 0 [.ref 166, .int (nI t), .int (nI b), .null] [] M Q
      have r49 : M 167 49 = nI (S.1 49) := hY.1 49 (by decide)
      simp only [e103_0, e103_1, e103_2, e103_5, e103_8, e103_9, e103_10, e103_11, e103_14, e103_17, e103_18, e103_19, e103_20, e103_23, e103_25, e103_26, e103_29, e103_31, e103_32, e103_33, e103_36, e103_37, e103_40, e103_41, e103_42, e103_45, e103_47, e103_48, e103_49, e103_50, e103_51, e103_54, e103_55, e103_56, e103_59, e103_61, e103_62, e103_63, e103_64, e103_65, e103_68, e103_69, e103_70, e103_73, e103_75, e103_76, e103_77, e103_78, e103_79, e103_80, e103_83, e103_84, e103_87, e103_88, e103_89, e103_90, e103_91, eq_self, kcat_nil, kcat_int, kcat_long, kcat_ref, kNL_int, kNL_ref, kNL_null, Option.toList_some, Option.toList_none, List.nil_append, List.cons_append, Nat.reduceAdd, Nat.reduceLeDiff, Nat.reduceEqDiff, true_and, and_true, true_or, or_true, false_or, or_false, ite_true, ite_false, my1, my2, my7, my12, y_isSieve, row24 hY.1, c, c2, y_in, and_self, n10, not_false_eq_true, li49, kin_nI (show 49 < 137 by decide) (by decide), clN (show 49 < 2 ^ 31 by decide), r49, z, h49, if_false, not_true_eq_false]
      exact hQ M hY Fy.rfl'
  have ht7 : t < 7 := by omega
  have zb : (nI b = 1) ↔ b = 1 := nI_eq_iff (b := 1) (by omega) (by decide)
  refine ⟨nI (S.1 (53 + 12 * t + 10)), (brN S.1 t b, (sav S).2), hI.sav.cur (br_Inv hI.1 ht7).mono, fun M Q hX hQ => ?_, fun M Q hY hQ => ?_⟩
  · show kE 48 0 [.ref 0, .int (nI t), .int (nI b), .null, .null] [] M Q
    have e1 : M 1 5 = nI (S.1 24) := hX.1.f24
    have e2 : M 1 10 = nI (S.1 49) := hX.1.f49
    simp only [e48_0, e48_1, e48_4, e48_5, e48_8, e48_11, e48_12, e48_13, e48_14, e48_17, e48_20, e48_21, e48_22, e48_23, e48_26, e48_29, e48_32, e48_34, e48_35, e48_36, e48_40, e48_43, e48_46, e48_47, e48_48, e48_49, e48_50, e48_53, e48_55, e48_56, e48_57, e48_60, e48_61, e48_62, e48_65, e48_66, e48_66r, e48_67, e48_70, e48_72, e48_73, e48_76, e48_78, eq_self, kcat_nil, kcat_int, kcat_long, kcat_ref, kNL_int, kNL_ref, kNL_null, Option.toList_some, Option.toList_none, List.nil_append, List.cons_append, Nat.reduceAdd, Nat.reduceLeDiff, Nat.reduceEqDiff, true_and, and_true, true_or, or_true, false_or, or_false, ite_true, ite_false, tp1, tp5, tp18, x_isSieve st1, e1, e2, c, c2, x_isIn, and_self, n10, not_false_eq_true, z, h49, if_false]
    refine x_saveState hX hI.1.f49 (fun M1 hX1 hF _ _ _ => ?_)
    have hR := hX1.1
    have eco : M1 (7 + 2 * t) 3 = nI (S.1 (53 + 12 * t + 11)) := hR.co ht7
    have esk : M1 (7 + 2 * t) 2 = nI (S.1 (53 + 12 * t + 10)) := hR.sk ht7
    have ea : 1 + 6 + 2 * t = 7 + 2 * t := by omega
    have s1 := hR.setSk ht7 (nI 0)
    rw [nr_upd, ea] at s1
    have eco2 : mset M1 (7 + 2 * t) 2 0 (7 + 2 * t) 3 = nI (S.1 (53 + 12 * t + 11)) := by rw [mset_ne (by omega)]; exact eco
    simp only [e48_0, e48_1, e48_4, e48_5, e48_8, e48_11, e48_12, e48_13, e48_14, e48_17, e48_20, e48_21, e48_22, e48_23, e48_26, e48_29, e48_32, e48_34, e48_35, e48_36, e48_39, e48_40, e48_43, e48_46, e48_47, e48_48, e48_49, e48_50, e48_53, e48_55, e48_56, e48_57, e48_60, e48_61, e48_62, e48_65, e48_66, e48_66r, e48_67, e48_70, e48_72, e48_73, e48_76, e48_78, eq_self, kcat_nil, kcat_int, kcat_long, kcat_ref, kNL_int, kNL_ref, kNL_null, Option.toList_some, Option.toList_none, List.nil_append, List.cons_append, Nat.reduceAdd, Nat.reduceLeDiff, Nat.reduceEqDiff, true_and, and_true, true_or, or_true, false_or, or_false, ite_true, ite_false, tp1, tp5, tp18, tp22, tp27, tp32, tp35, kin_nI (show t < 7 by omega) (by decide), clN (show t < 2 ^ 31 by omega), kd_t1 ht7, rf_t1 ht7, esk, eco2, nI_add, zb]
    by_cases h1 : b = 1
    · rw [if_neg (fun z => z h1)]
      have s2 := s1.setCo ht7 (nI (S.1 (53 + 12 * t + 11) + S.1 (53 + 12 * t + 10)))
      rw [nr_upd, ea] at s2
      have hO : Off 1 M1 (mset (mset M1 (7 + 2 * t) 2 0) (7 + 2 * t) 3 (nI (S.1 (53 + 12 * t + 11) + S.1 (53 + 12 * t + 10)))) := (Off.rfl'.mset (by omega) (by omega)).mset (by omega) (by omega)
      refine hQ _ (hX1.cur hO ?_) (fx1 hF hO)
      unfold brN
      rw [if_pos h1]
      exact s2
    · rw [if_pos h1]
      have hO : Off 1 M1 (mset M1 (7 + 2 * t) 2 0) := Off.rfl'.mset (by omega) (by omega)
      refine hQ _ (hX1.cur hO ?_) (fx1 hF hO)
      unfold brN
      rw [if_neg h1]
      refine s1.congr (fun i _ => congrArg nI ?_)
      show nu (nu S.1 (53 + 12 * t + 10) 0) (53 + 12 * t + 11) (S.1 (53 + 12 * t + 11) + 0) i = nu S.1 (53 + 12 * t + 10) 0 i
      by_cases h2 : i = 53 + 12 * t + 11
      · rw [h2, nu_eq, nu_ne (by omega), Nat.add_zero]
      · rw [nu_ne h2]
  · show kE 103 0 [.ref 166, .int (nI t), .int (nI b), .null] [] M Q
    have r49 : M 167 49 = nI (S.1 49) := hY.1 49 (by decide)
    simp only [e103_0, e103_1, e103_2, e103_5, e103_8, e103_9, e103_10, e103_11, e103_14, e103_17, e103_18, e103_19, e103_20, e103_23, e103_25, e103_26, e103_29, e103_31, e103_32, e103_33, e103_37, e103_40, e103_41, e103_42, e103_45, e103_47, e103_48, e103_49, e103_50, e103_51, e103_54, e103_55, e103_56, e103_59, e103_61, e103_62, e103_63, e103_64, e103_65, e103_68, e103_69, e103_70, e103_73, e103_75, e103_76, e103_77, e103_78, e103_79, e103_80, e103_83, e103_84, e103_87, e103_88, e103_89, e103_90, e103_91, eq_self, kcat_nil, kcat_int, kcat_long, kcat_ref, kNL_int, kNL_ref, kNL_null, Option.toList_some, Option.toList_none, List.nil_append, List.cons_append, Nat.reduceAdd, Nat.reduceLeDiff, Nat.reduceEqDiff, true_and, and_true, true_or, or_true, false_or, or_false, ite_true, ite_false, my1, my2, my7, my12, y_isSieve, row24 hY.1, c, c2, y_in, and_self, n10, not_false_eq_true, li49, kin_nI (show 49 < 137 by decide) (by decide), clN (show 49 < 2 ^ 31 by decide), r49, z, h49, if_false]
    refine y_notes hY (fun M1 hY1 hF _ _ _ => ?_)
    have hR : RowM M1 S.1 := hY1.1
    have rs : M1 167 (53 + 12 * t + 10) = nI (S.1 (53 + 12 * t + 10)) := hR _ (by omega)
    have rc : mset M1 167 (53 + 12 * t + 10) 0 167 (53 + 12 * t + 11) = nI (S.1 (53 + 12 * t + 11)) := by rw [mset_ne (by omega)]; exact hR _ (by omega)
    have hO : OffY M1 (mset (mset M1 167 (53 + 12 * t + 10) (nI 0)) 167 (53 + 12 * t + 11) (nI (S.1 (53 + 12 * t + 11) + (if b = 1 then S.1 (53 + 12 * t + 10) else 0)))) := (OffY.rfl'.set _ _).set _ _
    have hq' := hQ _ (hY1.cur hO ((hR.set _ _).set _ _)) (hF.trans hO.fy)
    simp only [e103_0, e103_1, e103_2, e103_5, e103_8, e103_9, e103_10, e103_11, e103_14, e103_17, e103_18, e103_19, e103_20, e103_23, e103_25, e103_26, e103_29, e103_31, e103_32, e103_33, e103_36, e103_37, e103_40, e103_41, e103_42, e103_45, e103_47, e103_48, e103_49, e103_50, e103_51, e103_54, e103_55, e103_56, e103_59, e103_61, e103_62, e103_63, e103_64, e103_65, e103_68, e103_69, e103_70, e103_73, e103_75, e103_76, e103_77, e103_78, e103_79, e103_80, e103_83, e103_84, e103_87, e103_88, e103_89, e103_90, e103_91, eq_self, kcat_nil, kcat_int, kcat_long, kcat_ref, kNL_int, kNL_ref, kNL_null, Option.toList_some, Option.toList_none, List.nil_append, List.cons_append, Nat.reduceAdd, Nat.reduceLeDiff, Nat.reduceEqDiff, true_and, and_true, true_or, or_true, false_or, or_false, ite_true, ite_false, my1, my2, my7, my12, y_at, li10, li11, nI_add, kin_nI (show 53 + 12 * t + 10 < 137 by omega) (by decide), clN (show 53 + 12 * t + 10 < 2 ^ 31 by omega), kin_nI (show 53 + 12 * t + 11 < 137 by omega) (by decide), clN (show 53 + 12 * t + 11 < 2 ^ 31 by omega), rs, rc, zb]
    by_cases h1 : b = 1
    · rw [if_neg (fun z => z h1)]
      rw [if_pos h1] at hq'
      exact hq'
    · rw [if_pos h1]
      rw [if_neg h1] at hq'
      have e0 : nI (S.1 (53 + 12 * t + 11)) + 0 = nI (S.1 (53 + 12 * t + 11) + 0) := Int32.add_zero _
      rw [e0]
      exact hq'
