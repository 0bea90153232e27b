/-! the stack of sieves -/
theorem find_or (p : NR) (a : Nat) : ∀ d t, findN p a d t = 99 ∨ (t ≤ findN p a d t ∧ findN p a d t < t + d) := by
  intro d
  induction d with
  | zero => intro t; exact Or.inl rfl
  | succ d ih =>
    intro t
    rw [findN]
    by_cases h : p (25 + t) = a
    · rw [if_pos h]; exact Or.inr ⟨by omega, by omega⟩
    · rw [if_neg h]
      rcases ih (t + 1) with q | q
      · exact Or.inl q
      · exact Or.inr ⟨by omega, by omega⟩
theorem find_m9 {p : NR} {a : Nat} (hn : p 24 ≤ 6) : ((if findN p a (p 24) 0 = 99 then (-9 : Int32) else nI (findN p a (p 24) 0)) = -9) ↔ findN p a (p 24) 0 = 99 := by
  by_cases h : findN p a (p 24) 0 = 99
  · rw [if_pos h]; exact ⟨fun _ => h, fun _ => rfl⟩
  · rw [if_neg h]
    refine ⟨fun q => ?_, fun q => absurd q h⟩
    have := (find_or p a (p 24) 0).resolve_left h
    have e := congrArg Int32.toInt q
    rw [nI_toInt (by omega)] at e
    have e2 : (-9 : Int32).toInt = -9 := rfl
    omega
theorem ends_lo {p : NR} {i : Nat} (h : i < 49) : endsN p i = p i := if_neg (by omega)
theorem ends_hi {p : NR} {i : Nat} (h : 49 ≤ i) (h2 : i < 137) : endsN p i = 0 := if_pos ⟨h, h2⟩
theorem Inv.stk {p q : NR} {N : Nat} (h : Inv p N) (ho : ∀ i, i < 137 → ¬ (24 ≤ i ∧ i < 31) → q i = endsN p i) (h24 : q 24 ≤ 6) (h1 : ∀ t, t < q 24 → 1 ≤ q (25 + t)) (h9 : ∀ t, t < 6 → q (25 + t) ≤ 9) : Inv q N := by
  obtain ⟨g1, g2, g3, g4, g5, g6, g7, g8, g9, g10, g11, g12, g13, g14, g15, g16⟩ := h
  have lo : ∀ i, i < 49 → ¬ (24 ≤ i ∧ i < 31) → q i = p i := fun i hi hk => by rw [ho i (by omega) hk, ends_lo hi]
  have hi0 : ∀ i, 49 ≤ i → i < 137 → q i = 0 := fun i h1 h2 => by rw [ho i h2 (by omega), ends_hi h1 h2]
  refine ⟨fun k hk => by rw [lo k (by omega) (by omega)]; exact g1 k hk, fun k hk => by rw [lo _ (by omega) (by omega)]; exact g2 k hk, by rw [lo 20 (by omega) (by omega)]; exact g3, by rw [lo 21 (by omega) (by omega)]; exact g4, by rw [lo 22 (by omega) (by omega)]; exact g5, by rw [lo 23 (by omega) (by omega)]; exact g6, h24, h1, h9, fun i h1 h2 => by rw [lo i (by omega) (by omega)]; exact g10 i h1 h2, by rw [hi0 49 (by omega) (by omega)]; omega, by rw [hi0 50 (by omega) (by omega)]; omega, by rw [hi0 51 (by omega) (by omega)]; omega, by rw [hi0 52 (by omega) (by omega)]; omega, ?_, fun t ht _ => hi0 _ (by omega) (by omega)⟩
  have : totN q = 0 := nsum_zero (fun k hk => hi0 _ (by omega) (by omega))
  rw [this]; exact Nat.zero_le _
theorem ins_Inv {p : NR} {a N : Nat} (h : Inv p N) (ha1 : 1 ≤ a) (ha : a ≤ 9) (hn : p 24 < 6) : Inv (insN (endsN p) a) N := by
  have e24 : endsN p 24 = p 24 := ends_lo (by decide)
  have ag : ∀ t, t < p 24 → (if t < 6 then p (25 + t) else 0) = endsN p (25 + t) := fun t ht => by rw [if_pos (by omega), ends_lo (by omega)]
  have i24 : insN (endsN p) a 24 = p 24 + 1 := by unfold insN; rw [if_pos rfl, e24]
  have iat : ∀ t, t < 6 → insN (endsN p) a (25 + t) = insG a (p 24) (fun t => endsN p (25 + t)) t := fun t ht => by
    unfold insN
    rw [if_neg (by omega), if_pos (by omega), e24, show 25 + t - 25 = t from by omega]
  refine h.stk (fun i hi hk => ?_) (by rw [i24]; omega) (fun t ht => ?_) (fun t ht => ?_)
  · unfold insN
    rw [if_neg (by omega), if_neg (by omega)]
  · rw [i24] at ht
    rw [iat t (by omega)]
    exact insG_ge ha1 (p 24) _ (fun s hs => by rw [ends_lo (by omega)]; exact h.ap1 s hs) t (by omega)
  · rw [iat t ht]
    by_cases hle : t ≤ p 24
    · rw [← insG_agree (p 24) _ _ ag t hle]
      exact insG_le ha (p 24) _ (fun s => by split; exact h.ap9 s (by omega); omega) t
    · rw [insG_above _ _ _ (by omega), ends_lo (by omega)]
      exact h.ap9 t ht
def apN (q : NR) (g : Nat → Nat) : NR := fun i => if 25 ≤ i ∧ i < 31 then g (i - 25) else q i
theorem ap_at {q : NR} {g : Nat → Nat} {t : Nat} (h : t < 6) : apN q g (25 + t) = g t := by
  unfold apN
  rw [if_pos (by omega), show 25 + t - 25 = t from by omega]
theorem ap_set {q : NR} {g : Nat → Nat} {t v : Nat} (h : t < 6) (i : Nat) : apN q (nu g t v) i = nu (apN q g) (25 + t) v i := by
  unfold apN nu
  dsimp only
  by_cases h1 : 25 ≤ i ∧ i < 31
  · rw [if_pos h1]
    by_cases h2 : i - 25 = t
    · rw [if_pos h2, if_pos (by omega)]
    · rw [if_neg h2, if_neg (by omega), if_pos h1]
  · rw [if_neg h1, if_neg (by omega), if_neg h1]
theorem y_insLoop {a : Nat} {q : NR} {M0 : KMem} {Q : Option Value → KMem → Prop} (ha : a ≤ 9) : ∀ t, t < 6 → ∀ g : Nat → Nat, (∀ s, s ≤ t → g s ≤ 1000) → ∀ M1, RowM M1 (apN q g) → OffY M0 M1 → (∀ M2, RowM M2 (apN q (insG a t g)) → OffY M0 M2 → kE 87 111 [.ref 166, .int (nI a), .int (nI (posG a t g))] [] M2 Q) → kE 87 56 [.ref 166, .int (nI a), .int (nI t)] [] M1 Q := by
  intro t
  induction t with
  | zero =>
    intro _ g _ M1 hR hO hk
    have le : nI 0 ≤ 0 := by decide
    rw [e87_56]
    simp only [e87_0, e87_1, e87_2, e87_4, e87_7, e87_10, e87_11, e87_12, e87_13, e87_14, e87_17, e87_19, e87_22, e87_24, e87_25, e87_26, e87_29, e87_31, e87_32, e87_34, e87_37, e87_39, e87_40, e87_41, e87_44, e87_45, e87_48, e87_49, e87_52, e87_54, e87_55, e87_57, e87_60, e87_61, e87_64, e87_66, e87_67, e87_68, e87_69, e87_70, e87_71, e87_72, e87_75, e87_76, e87_79, e87_81, e87_82, e87_83, e87_84, e87_87, e87_89, e87_90, e87_91, e87_92, e87_93, e87_94, e87_95, e87_98, e87_101, e87_102, e87_105, e87_107, e87_108, e87_109, e87_110, e87_112, e87_115, e87_117, e87_118, e87_119, e87_120, e87_121, e87_122, e87_123, eq_self, kcat_nil, kcat_int, kcat_long, kcat_ref, kNL_int, kNL_ref, kNL_null, Option.toList_some, Option.toList_none, List.nil_append, List.cons_append, Nat.reduceAdd, Nat.reduceLeDiff, Nat.reduceEqDiff, true_and, and_true, true_or, or_true, false_or, or_false, ite_true, ite_false, le, my1, my2, my7, my12, li25, nI_add, kin_nI (show 25 < 137 by decide) (by decide), clN (show 25 < 2 ^ 31 by decide)]
    exact hk _ ((hR.set 25 a).congr (fun i _ => ap_set (t := 0) (by decide) i)) (hO.set _ _)
  | succ t ih =>
    intro ht g hg M1 hR hO hk
    have nle : ¬ nI (t + 1) ≤ 0 := by rw [show (0 : Int32) = nI 0 from rfl]; exact nI_ge (by omega) (by omega)
    have s1 : nI (25 + (t + 1)) - 1 = nI (25 + t) := by rw [show (1 : Int32) = nI 1 from rfl, pk_sub (by omega)]; rfl
    have e2 : nI (t + 1) + (-1) = nI t := pk_m1 t
    have hgt := hg t (by omega)
    have hlt : (nI a ≤ nI (g t)) ↔ a ≤ g t := nI_le_iff (by omega) (by omega)
    have r1 : M1 167 (25 + t) = nI (g t) := by rw [hR _ (by omega), ap_at (by omega)]
    rw [e87_56]
    simp only [e87_0, e87_1, e87_2, e87_4, e87_7, e87_10, e87_11, e87_12, e87_13, e87_14, e87_17, e87_19, e87_22, e87_24, e87_25, e87_26, e87_29, e87_31, e87_32, e87_34, e87_37, e87_39, e87_40, e87_41, e87_44, e87_45, e87_48, e87_49, e87_52, e87_54, e87_55, e87_57, e87_60, e87_61, e87_64, e87_66, e87_67, e87_68, e87_69, e87_70, e87_71, e87_72, e87_75, e87_76, e87_79, e87_81, e87_82, e87_83, e87_84, e87_87, e87_89, e87_90, e87_91, e87_92, e87_93, e87_94, e87_95, e87_98, e87_101, e87_102, e87_105, e87_107, e87_108, e87_109, e87_110, e87_112, e87_115, e87_117, e87_118, e87_119, e87_120, e87_121, e87_122, e87_123, eq_self, kcat_nil, kcat_int, kcat_long, kcat_ref, kNL_int, kNL_ref, kNL_null, Option.toList_some, Option.toList_none, List.nil_append, List.cons_append, Nat.reduceAdd, Nat.reduceLeDiff, Nat.reduceEqDiff, true_and, and_true, true_or, or_true, false_or, or_false, ite_true, ite_false, nle, my1, my2, my7, my12, li25, nI_add, s1, e2, kin_nI (show 25 + t < 137 by omega) (by decide), clN (show 25 + t < 2 ^ 31 by omega), kin_nI (show 25 + (t + 1) < 137 by omega) (by decide), clN (show 25 + (t + 1) < 2 ^ 31 by omega), r1, hlt]
    rw [insG, posG] at hk
    by_cases h : g t < a
    · rw [if_neg (by omega)]
      rw [if_pos h, if_pos h] at hk
      exact ih (by omega) _ (fun s hs => by rw [nu_ne (by omega)]; exact hg s (by omega)) _ ((hR.set _ _).congr (fun i _ => ap_set (by omega) i)) (hO.set _ _) hk
    · rw [if_pos (by omega)]
      rw [if_neg h, if_neg h] at hk
      exact hk _ ((hR.set _ _).congr (fun i _ => ap_set (by omega) i)) (hO.set _ _)
theorem op_addSieve (x : Int32) : OpOK 38 87 [.int x] := by
  intro S N hN hI
  have n10 : ¬ (1 : Int32) = 0 := by decide
  have hn := hI.1.f24
  rcases rng x 1 9 (by decide) (by decide) with h | ⟨a, a1, a9, rfl⟩
  · have h' : ¬ (1 ≤ x ∧ x ≤ 9) := h
    refine ⟨-1, S, hI.mono, fun M Q hX hQ => ?_, fun M Q hY hQ => ?_⟩
    · show kE 38 0 [.ref 0, .int x] [] M Q
      simp only [e38_0, e38_1, e38_2, e38_4, e38_7, e38_10, e38_11, e38_12, e38_13, e38_16, e38_17, e38_20, e38_22, e38_25, e38_27, e38_28, e38_29, e38_32, e38_35, e38_37, e38_40, e38_42, e38_43, e38_44, e38_47, e38_48, e38_51, e38_54, e38_55, e38_58, e38_59, e38_62, eq_self, kcat_nil, kcat_int, kcat_long, kcat_ref, kNL_int, kNL_ref, kNL_null, Option.toList_some, Option.toList_none, List.nil_append, List.cons_append, Nat.reduceAdd, Nat.reduceLeDiff, Nat.reduceEqDiff, true_and, and_true, true_or, or_true, false_or, or_false, ite_true, ite_false, x_isIn, h', if_false, not_true_eq_false]
      exact hQ M hX Fx.rfl'
    · show kE 87 0 [.ref 166, .int x, .null] [] M Q
      simp only [e87_0, e87_1, e87_2, e87_4, e87_7, e87_10, e87_11, e87_12, e87_13, e87_14, e87_17, e87_19, e87_22, e87_24, e87_25, e87_26, e87_29, e87_31, e87_32, e87_34, e87_37, e87_39, e87_40, e87_41, e87_44, e87_45, e87_48, e87_49, e87_52, e87_54, e87_55, e87_57, e87_60, e87_61, e87_64, e87_66, e87_67, e87_68, e87_69, e87_70, e87_71, e87_72, e87_75, e87_76, e87_79, e87_81, e87_82, e87_83, e87_84, e87_87, e87_89, e87_90, e87_91, e87_92, e87_93, e87_94, e87_95, e87_98, e87_101, e87_102, e87_105, e87_107, e87_108, e87_109, e87_110, e87_111, e87_112, e87_115, e87_117, e87_118, e87_119, e87_120, e87_121, e87_122, e87_123, eq_self, kcat_nil, kcat_int, kcat_long, kcat_ref, kNL_int, kNL_ref, kNL_null, Option.toList_some, Option.toList_none, List.nil_append, List.cons_append, Nat.reduceAdd, Nat.reduceLeDiff, Nat.reduceEqDiff, true_and, and_true, true_or, or_true, false_or, or_false, ite_true, ite_false, y_in, h', if_false, not_true_eq_false]
      exact hQ M hY Fy.rfl'
  have c : (1 : Int32) ≤ nI a ∧ nI a ≤ 9 := rng_in (lo := 1) (hi := 9) a1 a9 (by decide)
  have zf := find_m9 (p := S.1) (a := a) hn
  by_cases hf : findN S.1 a (S.1 24) 0 = 99
  · have z6 : (nI (S.1 24) < 6) ↔ S.1 24 < 6 := nI_lt_iff (b := 6) (by omega) (by decide)
    have z6' : (nI (S.1 24) = 6) ↔ S.1 24 = 6 := nI_eq_iff (b := 6) (by omega) (by decide)
    by_cases h6 : S.1 24 < 6
    · have h6' : ¬ S.1 24 = 6 := by omega
      obtain ⟨q, hq⟩ : ∃ q, q = endsN S.1 := ⟨_, rfl⟩
      have q24 : q 24 = S.1 24 := by rw [hq]; exact ends_lo (by decide)
      have qap : ∀ t, t < 6 → q (25 + t) ≤ 9 := fun t ht => by rw [hq, ends_lo (by omega)]; exact hI.1.ap9 t ht
      refine ⟨nI (posG a (q 24) (fun t => q (25 + t))), (insN q a, (sav S).2), hI.sav.cur (by rw [hq]; exact (ins_Inv hI.1 a1 a9 h6).mono), fun M Q hX hQ => ?_, fun M Q hY hQ => ?_⟩
      · show kE 38 0 [.ref 0, .int (nI a)] [] M Q
        have e1 : M 1 5 = nI (S.1 24) := hX.1.f24
        simp only [e38_0, e38_1, e38_2, e38_4, e38_7, e38_10, e38_11, e38_12, e38_13, e38_16, e38_17, e38_20, e38_22, e38_25, e38_27, e38_28, e38_29, e38_32, e38_35, e38_37, e38_40, e38_42, e38_43, e38_44, e38_48, e38_51, e38_54, e38_55, e38_58, e38_59, e38_62, eq_self, kcat_nil, kcat_int, kcat_long, kcat_ref, kNL_int, kNL_ref, kNL_null, Option.toList_some, Option.toList_none, List.nil_append, List.cons_append, Nat.reduceAdd, Nat.reduceLeDiff, Nat.reduceEqDiff, true_and, and_true, true_or, or_true, false_or, or_false, ite_true, ite_false, x_isIn, c, and_self, n10, not_false_eq_true, tp1, tp5, tp18, x_findSieve st1 hX.1 hn a9 hI.1.ap9, zf, hf, e1, z6, h6]
        refine x_saveState hX hI.1.f49 (fun M1 hX1 hF _ _ _ => ?_)
        simp only [e38_0, e38_1, e38_2, e38_4, e38_7, e38_10, e38_11, e38_12, e38_13, e38_16, e38_17, e38_20, e38_22, e38_25, e38_27, e38_28, e38_29, e38_32, e38_35, e38_37, e38_40, e38_42, e38_43, e38_44, e38_47, e38_48, e38_51, e38_55, e38_58, e38_59, e38_62, eq_self, kcat_nil, kcat_int, kcat_long, kcat_ref, kNL_int, kNL_ref, kNL_null, Option.toList_some, Option.toList_none, List.nil_append, List.cons_append, Nat.reduceAdd, Nat.reduceLeDiff, Nat.reduceEqDiff, true_and, and_true, true_or, or_true, false_or, or_false, ite_true, ite_false, tp1, tp5, tp18]
        refine x_endAnalysis st1 hX1.1 (fun M2 hR2 hO2 => ?_)
        have hR2' : StR 1 M2 (nr q) := by rw [hq]; exact hR2
        simp only [e38_0, e38_1, e38_2, e38_4, e38_7, e38_10, e38_11, e38_12, e38_13, e38_16, e38_17, e38_20, e38_22, e38_25, e38_27, e38_28, e38_29, e38_32, e38_35, e38_37, e38_40, e38_42, e38_43, e38_44, e38_47, e38_48, e38_51, e38_54, e38_55, e38_58, e38_59, eq_self, kcat_nil, kcat_int, kcat_long, kcat_ref, kNL_int, kNL_ref, kNL_null, Option.toList_some, Option.toList_none, List.nil_append, List.cons_append, Nat.reduceAdd, Nat.reduceLeDiff, Nat.reduceEqDiff, true_and, and_true, true_or, or_true, false_or, or_false, ite_true, ite_false, tp1, tp5, tp18]
        refine x_insertSieve st1 hR2' (by omega) a9 qap (fun M3 hR3 hO3 => ?_)
        simp only [e38_0, e38_1, e38_2, e38_4, e38_7, e38_10, e38_11, e38_12, e38_13, e38_16, e38_17, e38_20, e38_22, e38_25, e38_27, e38_28, e38_29, e38_32, e38_35, e38_37, e38_40, e38_42, e38_43, e38_44, e38_47, e38_48, e38_51, e38_54, e38_55, e38_58, e38_59, e38_62, eq_self, kcat_nil, kcat_int, kcat_long, kcat_ref, kNL_int, kNL_ref, kNL_null, Option.toList_some, Option.toList_none, List.nil_append, List.cons_append, Nat.reduceAdd, Nat.reduceLeDiff, Nat.reduceEqDiff, true_and, and_true, true_or, or_true, false_or, or_false, ite_true, ite_false]
        exact hQ _ (hX1.cur (hO2.trans hO3) hR3) (fx1 hF (hO2.trans hO3))
      · show kE 87 0 [.ref 166, .int (nI a), .null] [] M Q
        simp only [e87_0, e87_1, e87_2, e87_4, e87_7, e87_10, e87_11, e87_12, e87_13, e87_14, e87_17, e87_19, e87_22, e87_24, e87_25, e87_26, e87_29, e87_31, e87_32, e87_34, e87_37, e87_39, e87_40, e87_41, e87_45, e87_48, e87_49, e87_52, e87_54, e87_55, e87_57, e87_60, e87_61, e87_64, e87_66, e87_67, e87_68, e87_69, e87_70, e87_71, e87_72, e87_75, e87_76, e87_79, e87_81, e87_82, e87_83, e87_84, e87_87, e87_89, e87_90, e87_91, e87_92, e87_93, e87_94, e87_95, e87_98, e87_101, e87_102, e87_105, e87_107, e87_108, e87_109, e87_110, e87_111, e87_112, e87_115, e87_117, e87_118, e87_119, e87_120, e87_121, e87_122, e87_123, eq_self, kcat_nil, kcat_int, kcat_long, kcat_ref, kNL_int, kNL_ref, kNL_null, Option.toList_some, Option.toList_none, List.nil_append, List.cons_append, Nat.reduceAdd, Nat.reduceLeDiff, Nat.reduceEqDiff, true_and, and_true, true_or, or_true, false_or, or_false, ite_true, ite_false, y_in, c, and_self, n10, not_false_eq_true, my1, my2, my7, my12, li24, kin_nI (show 24 < 137 by decide) (by decide), clN (show 24 < 2 ^ 31 by decide), y_trayWith hY.1 hn a9 hI.1.ap9, zf, hf, row24 hY.1, z6', h6']
        refine y_notes hY (fun M1 hY1 hF _ _ _ => ?_)
        simp only [e87_0, e87_1, e87_2, e87_4, e87_7, e87_10, e87_11, e87_12, e87_13, e87_14, e87_17, e87_19, e87_22, e87_24, e87_25, e87_26, e87_29, e87_31, e87_32, e87_34, e87_37, e87_39, e87_40, e87_41, e87_44, e87_45, e87_49, e87_52, e87_54, e87_55, e87_57, e87_60, e87_61, e87_64, e87_66, e87_67, e87_68, e87_69, e87_70, e87_71, e87_72, e87_75, e87_76, e87_79, e87_81, e87_82, e87_83, e87_84, e87_87, e87_89, e87_90, e87_91, e87_92, e87_93, e87_94, e87_95, e87_98, e87_101, e87_102, e87_105, e87_107, e87_108, e87_109, e87_110, e87_111, e87_112, e87_115, e87_117, e87_118, e87_119, e87_120, e87_121, e87_122, e87_123, eq_self, kcat_nil, kcat_int, kcat_long, kcat_ref, kNL_int, kNL_ref, kNL_null, Option.toList_some, Option.toList_none, List.nil_append, List.cons_append, Nat.reduceAdd, Nat.reduceLeDiff, Nat.reduceEqDiff, true_and, and_true, true_or, or_true, false_or, or_false, ite_true, ite_false, my1]
        refine y_ends hY1.1 (fun M2 hR2 hO2 => ?_)
        have hR2' : RowM M2 q := by rw [hq]; exact hR2
        have r24 : M2 167 24 = nI (q 24) := hR2' 24 (by decide)
        simp only [e87_0, e87_1, e87_2, e87_4, e87_7, e87_10, e87_11, e87_12, e87_13, e87_14, e87_17, e87_19, e87_22, e87_24, e87_25, e87_26, e87_29, e87_31, e87_32, e87_34, e87_37, e87_39, e87_40, e87_41, e87_44, e87_45, e87_48, e87_49, e87_52, e87_54, e87_55, e87_57, e87_60, e87_61, e87_64, e87_66, e87_67, e87_68, e87_69, e87_70, e87_71, e87_72, e87_75, e87_76, e87_79, e87_81, e87_82, e87_83, e87_84, e87_87, e87_89, e87_90, e87_91, e87_92, e87_93, e87_94, e87_95, e87_98, e87_101, e87_102, e87_105, e87_107, e87_108, e87_109, e87_110, e87_111, e87_112, e87_115, e87_117, e87_118, e87_119, e87_120, e87_121, e87_122, e87_123, eq_self, kcat_nil, kcat_int, kcat_long, kcat_ref, kNL_int, kNL_ref, kNL_null, Option.toList_some, Option.toList_none, List.nil_append, List.cons_append, Nat.reduceAdd, Nat.reduceLeDiff, Nat.reduceEqDiff, true_and, and_true, true_or, or_true, false_or, or_false, ite_true, ite_false, my1, my2, my7, my12, li24, kin_nI (show 24 < 137 by decide) (by decide), clN (show 24 < 2 ^ 31 by decide), r24]
        refine y_insLoop (q := q) (M0 := M2) a9 (q 24) (by omega) (fun t => q (25 + t)) (fun s hs => by have := qap s (by omega); omega) M2 (hR2'.congr (fun i _ => ?_)) OffY.rfl' (fun M3 hR3 hO3 => ?_)
        · unfold apN
          by_cases h1 : 25 ≤ i ∧ i < 31
          · rw [if_pos h1]
            exact congrArg q (show 25 + (i - 25) = i from by omega)
          · rw [if_neg h1]
        · have r24' : M3 167 24 = nI (q 24) := hR3 24 (by decide)
          simp only [e87_0, e87_1, e87_2, e87_4, e87_7, e87_10, e87_11, e87_12, e87_13, e87_14, e87_17, e87_19, e87_22, e87_24, e87_25, e87_26, e87_29, e87_31, e87_32, e87_34, e87_37, e87_39, e87_40, e87_41, e87_44, e87_45, e87_48, e87_49, e87_52, e87_54, e87_55, e87_57, e87_60, e87_61, e87_64, e87_66, e87_67, e87_68, e87_69, e87_70, e87_71, e87_72, e87_75, e87_76, e87_79, e87_81, e87_82, e87_83, e87_84, e87_87, e87_89, e87_90, e87_91, e87_92, e87_93, e87_94, e87_95, e87_98, e87_101, e87_102, e87_105, e87_107, e87_108, e87_109, e87_110, e87_111, e87_112, e87_115, e87_117, e87_118, e87_119, e87_120, e87_121, e87_122, e87_123, eq_self, kcat_nil, kcat_int, kcat_long, kcat_ref, kNL_int, kNL_ref, kNL_null, Option.toList_some, Option.toList_none, List.nil_append, List.cons_append, Nat.reduceAdd, Nat.reduceLeDiff, Nat.reduceEqDiff, true_and, and_true, true_or, or_true, false_or, or_false, ite_true, ite_false, my1, my2, my7, my12, li24, kin_nI (show 24 < 137 by decide) (by decide), clN (show 24 < 2 ^ 31 by decide), r24', nI_add1]
          exact hQ _ (hY1.cur (hO2.trans (hO3.set _ _)) ((hR3.set _ _).congr (fun i _ => by
            unfold nu insN apN
            by_cases h1 : i = 24
            · simp only [h1, if_true]
            · simp only [h1, if_false]))) (hF.trans (hO2.trans (hO3.set _ _)).fy)
    · have h6' : S.1 24 = 6 := by omega
      refine ⟨-3, S, hI.mono, fun M Q hX hQ => ?_, fun M Q hY hQ => ?_⟩
      · show kE 38 0 [.ref 0, .int (nI a)] [] M Q
        have e1 : M 1 5 = nI (S.1 24) := hX.1.f24
        simp only [e38_0, e38_1, e38_2, e38_4, e38_7, e38_10, e38_11, e38_12, e38_13, e38_16, e38_17, e38_20, e38_22, e38_25, e38_27, e38_28, e38_29, e38_32, e38_35, e38_37, e38_40, e38_42, e38_43, e38_44, e38_48, e38_51, e38_54, e38_55, e38_58, e38_59, e38_62, eq_self, kcat_nil, kcat_int, kcat_long, kcat_ref, kNL_int, kNL_ref, kNL_null, Option.toList_some, Option.toList_none, List.nil_append, List.cons_append, Nat.reduceAdd, Nat.reduceLeDiff, Nat.reduceEqDiff, true_and, and_true, true_or, or_true, false_or, or_false, ite_true, ite_false, x_isIn, c, and_self, n10, not_false_eq_true, tp1, tp5, tp18, x_findSieve st1 hX.1 hn a9 hI.1.ap9, zf, hf, e1, z6, h6]
        exact hQ M hX Fx.rfl'
      · show kE 87 0 [.ref 166, .int (nI a), .null] [] M Q
        have l6 : ¬ ¬ nI (S.1 24) = 6 := fun z => z (by rw [h6']; rfl)
        have zf' := zf.mpr hf
        have tw := fun Q' => y_trayWith (M := M) (Q := Q') hY.1 hn a9 hI.1.ap9
        simp only [e87_0, e87_1, e87_2, e87_4, e87_7, e87_10, e87_11, e87_12, e87_13, e87_14, e87_17, e87_19, e87_22, e87_24, e87_25, e87_26, e87_29, e87_31, e87_32, e87_34, e87_37, e87_39, e87_40, e87_41, e87_45, e87_48, e87_49, e87_52, e87_54, e87_55, e87_57, e87_60, e87_61, e87_64, e87_66, e87_67, e87_68, e87_69, e87_70, e87_71, e87_72, e87_75, e87_76, e87_79, e87_81, e87_82, e87_83, e87_84, e87_87, e87_89, e87_90, e87_91, e87_92, e87_93, e87_94, e87_95, e87_98, e87_101, e87_102, e87_105, e87_107, e87_108, e87_109, e87_110, e87_111, e87_112, e87_115, e87_117, e87_118, e87_119, e87_120, e87_121, e87_122, e87_123, eq_self, kcat_nil, kcat_int, kcat_long, kcat_ref, kNL_int, kNL_ref, kNL_null, Option.toList_some, Option.toList_none, List.nil_append, List.cons_append, Nat.reduceAdd, Nat.reduceLeDiff, Nat.reduceEqDiff, true_and, and_true, true_or, or_true, false_or, or_false, ite_true, ite_false, y_in, c, and_self, n10, not_false_eq_true, my1, my2, my7, my12, li24, kin_nI (show 24 < 137 by decide) (by decide), clN (show 24 < 2 ^ 31 by decide), tw, zf', row24 hY.1, l6, if_false]
        exact hQ M hY Fy.rfl'
  · have zn : ¬ nI (findN S.1 a (S.1 24) 0) = -9 := fun z => hf (zf.mp (by rw [if_neg hf]; exact z))
    refine ⟨-2, S, hI.mono, fun M Q hX hQ => ?_, fun M Q hY hQ => ?_⟩
    · show kE 38 0 [.ref 0, .int (nI a)] [] M Q
      simp only [e38_0, e38_1, e38_2, e38_4, e38_7, e38_10, e38_11, e38_12, e38_13, e38_16, e38_17, e38_20, e38_22, e38_25, e38_27, e38_28, e38_29, e38_32, e38_35, e38_37, e38_40, e38_42, e38_43, e38_44, e38_47, e38_48, e38_51, e38_54, e38_55, e38_58, e38_59, e38_62, eq_self, kcat_nil, kcat_int, kcat_long, kcat_ref, kNL_int, kNL_ref, kNL_null, Option.toList_some, Option.toList_none, List.nil_append, List.cons_append, Nat.reduceAdd, Nat.reduceLeDiff, Nat.reduceEqDiff, true_and, and_true, true_or, or_true, false_or, or_false, ite_true, ite_false, x_isIn, c, and_self, n10, not_false_eq_true, tp1, tp5, tp18, x_findSieve st1 hX.1 hn a9 hI.1.ap9, zn, hf, if_false]
      exact hQ M hX Fx.rfl'
    · show kE 87 0 [.ref 166, .int (nI a), .null] [] M Q
      simp only [e87_0, e87_1, e87_2, e87_4, e87_7, e87_10, e87_11, e87_12, e87_13, e87_14, e87_17, e87_19, e87_22, e87_24, e87_25, e87_26, e87_29, e87_31, e87_32, e87_34, e87_37, e87_39, e87_40, e87_41, e87_44, e87_45, e87_48, e87_49, e87_52, e87_54, e87_55, e87_57, e87_60, e87_61, e87_64, e87_66, e87_67, e87_68, e87_69, e87_70, e87_71, e87_72, e87_75, e87_76, e87_79, e87_81, e87_82, e87_83, e87_84, e87_87, e87_89, e87_90, e87_91, e87_92, e87_93, e87_94, e87_95, e87_98, e87_101, e87_102, e87_105, e87_107, e87_108, e87_109, e87_110, e87_111, e87_112, e87_115, e87_117, e87_118, e87_119, e87_120, e87_121, e87_122, e87_123, eq_self, kcat_nil, kcat_int, kcat_long, kcat_ref, kNL_int, kNL_ref, kNL_null, Option.toList_some, Option.toList_none, List.nil_append, List.cons_append, Nat.reduceAdd, Nat.reduceLeDiff, Nat.reduceEqDiff, true_and, and_true, true_or, or_true, false_or, or_false, ite_true, ite_false, y_in, c, and_self, n10, not_false_eq_true, my1, y_trayWith hY.1 hn a9 hI.1.ap9, zn, hf, if_false]
      exact hQ M hY Fy.rfl'
