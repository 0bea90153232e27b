/-! load -/
def cntN (g : Nat → Nat) : Nat := nsum (fun s => if g s = 0 then 0 else 1) 10
theorem cnt_le (g : Nat → Nat) : cntN g ≤ 10 := by
  have := nsum_le (f := fun s => if g s = 0 then 0 else 1) (n := 10) (c := 1) (fun k _ => by split <;> omega)
  unfold cntN
  omega
theorem cnt_nu {g : Nat → Nat} {s v : Nat} (hs : s < 10) (hg : g s = 0) : cntN (nu g s (v + 1)) = cntN g + 1 := by
  have := nsum_upd (f := fun s => if g s = 0 then 0 else 1) (i := s) (v := 1) (n := 10) hs
  have e : nsum (fun k => if k = s then 1 else (fun s => if g s = 0 then 0 else 1) k) 10 = cntN (nu g s (v + 1)) := nsum_congr (fun k hk => by
    by_cases hks : k = s
    · rw [hks, nu_eq, if_pos rfl, if_neg (by omega)]
    · rw [nu_ne hks, if_neg hks])
  rw [e] at this
  rw [if_pos hg] at this
  unfold cntN at this ⊢
  omega
section PY
variable {len : Nat} {tx : Nat → Nat} {M : KMem} {Q : Option Value → KMem → Prop}
theorem y_reads (hT : TxOk len tx) (h : WY len tx M M)
    (hE : (rdN len tx).1 = false → ∀ M', WY len tx M M' → M' 166 7 = nI (rdN len tx).2.1 → Q (some (.int 0)) M')
    (hK : (rdN len tx).1 = true → (∀ s, (rdN len tx).2.2 s ≤ 10000) → ∀ M', WY len tx M M' → (∀ s, s < 10 → M' 171 s = nI ((rdN len tx).2.2 s) - 1) → Q (some (.int 1)) M') : kE 82 0 [.ref 166, .null] [] M Q := by
  have n10 : ¬ (1 : Int32) = 0 := by decide
  have hl := hT.1
  have zh : ∀ k, ((if k < len then nI (tx k) else -1) < 0) ↔ ¬ k < len := fun k => by
    by_cases hlt : k < len
    · rw [if_pos hlt]
      have := hT.2 k hlt
      exact ⟨fun z => absurd z (nI_pos (by omega)), fun z => absurd hlt z⟩
    · rw [if_neg hlt]
      exact ⟨fun _ => hlt, fun _ => by decide⟩
  have loop : ∀ d g i, cntN g + d = 11 → i ≤ len → (∀ s, g s ≤ 10000) → ∀ M1, PY len tx g i M M1 → ((prs len tx d g i).1 = false → ∀ M', WY len tx M M' → M' 166 7 = nI (prs len tx d g i).2.1 → Q (some (.int 0)) M') → ((prs len tx d g i).1 = true → (∀ s, (prs len tx d g i).2.2 s ≤ 10000) → ∀ M', WY len tx M M' → (∀ s, s < 10 → M' 171 s = nI ((prs len tx d g i).2.2 s) - 1) → Q (some (.int 1)) M') → kE 82 39 [.ref 166, .int 1] [] M1 Q := by
    intro d
    induction d with
    | zero =>
      intro g i hc
      have := cnt_le g
      omega
    | succ d ih =>
      intro g i hc hi hg M1 h hE hK
      rw [prs] at hE hK
      rw [e82_39]
      simp only [e82_0, e82_1, e82_2, e82_5, e82_6, e82_7, e82_8, e82_10, e82_13, e82_14, e82_17, e82_18, e82_19, e82_20, e82_23, e82_26, e82_27, e82_30, e82_33, e82_34, e82_37, e82_38, e82_40, e82_43, e82_44, e82_50, e82_51, e82_52, e82_53, e82_56, e82_59, e82_60, e82_63, e82_64, e82_65, e82_66, e82_69, e82_70, e82_73, e82_75, e82_78, e82_79, e82_80, e82_81, e82_81r, e82_82, e82_85, e82_86, e82_89, e82_90, e82_93, e82_94, e82_95, e82_98, e82_101, e82_102, eq_self, kcat_nil, kcat_int, kcat_long, kcat_ref, kNL_int, kNL_ref, kNL_null, Option.toList_some, Option.toList_none, List.nil_append, List.cons_append, Nat.reduceAdd, Nat.reduceLeDiff, Nat.reduceEqDiff, true_and, and_true, true_or, or_true, false_or, or_false, ite_true, ite_false, my1, n10, if_false]
      refine y_readsPair hT hi hg h (fun p hp hpl M2 hW h7 => ?_) (fun e s v hp hs hel hgs hv M2 hP2 => ?_)
      · rw [hp] at hE
        rw [if_neg (show ¬ ((false, p, 0, 0) : Bool × Nat × Nat × Nat).1 = true from Bool.false_ne_true)] at hE
        simp only [e82_0, e82_1, e82_2, e82_5, e82_6, e82_7, e82_8, e82_10, e82_13, e82_14, e82_17, e82_18, e82_19, e82_20, e82_23, e82_26, e82_27, e82_30, e82_33, e82_34, e82_37, e82_38, e82_40, e82_43, e82_44, e82_47, e82_50, e82_51, e82_52, e82_53, e82_56, e82_59, e82_60, e82_63, e82_64, e82_65, e82_66, e82_69, e82_70, e82_73, e82_75, e82_78, e82_79, e82_80, e82_81, e82_81r, e82_82, e82_85, e82_86, e82_89, e82_90, e82_93, e82_94, e82_95, e82_98, e82_101, e82_102, eq_self, kcat_nil, kcat_int, kcat_long, kcat_ref, kNL_int, kNL_ref, kNL_null, Option.toList_some, Option.toList_none, List.nil_append, List.cons_append, Nat.reduceAdd, Nat.reduceLeDiff, Nat.reduceEqDiff, true_and, and_true, true_or, or_true, false_or, or_false, ite_true, ite_false, not_true_eq_false, if_false]
        exact hE rfl M2 hW h7
      · rw [hp] at hE hK
        rw [if_pos rfl] at hE hK
        have bk := skN_le (tx := tx) hel
        have bid := skN_id (tx := tx) hel
        obtain ⟨k, hk⟩ : ∃ k, k = skN len tx e := ⟨_, rfl⟩
        dsimp only at hE hK
        rw [← hk] at bk bid hE hK
        have hg' : ∀ r, nu g s (v + 1) r ≤ 10000 := fun r => nu_le' (fun _ => by omega) (fun _ => hg r)
        simp only [e82_0, e82_1, e82_2, e82_5, e82_6, e82_7, e82_8, e82_10, e82_13, e82_14, e82_17, e82_18, e82_19, e82_20, e82_23, e82_26, e82_27, e82_30, e82_33, e82_34, e82_37, e82_38, e82_40, e82_43, e82_44, e82_47, e82_50, e82_51, e82_52, e82_53, e82_59, e82_60, e82_63, e82_64, e82_65, e82_66, e82_69, e82_70, e82_73, e82_75, e82_78, e82_79, e82_80, e82_81, e82_81r, e82_82, e82_85, e82_86, e82_89, e82_90, e82_93, e82_94, e82_95, e82_98, e82_101, e82_102, eq_self, kcat_nil, kcat_int, kcat_long, kcat_ref, kNL_int, kNL_ref, kNL_null, Option.toList_some, Option.toList_none, List.nil_append, List.cons_append, Nat.reduceAdd, Nat.reduceLeDiff, Nat.reduceEqDiff, true_and, and_true, true_or, or_true, false_or, or_false, ite_true, ite_false, my1, n10, not_false_eq_true]
        refine y_here hT hel hP2 (fun M3 hP3 => ?_)
        rw [← hk] at hP3 ⊢
        simp only [e82_0, e82_1, e82_2, e82_5, e82_6, e82_7, e82_8, e82_10, e82_13, e82_14, e82_17, e82_18, e82_19, e82_20, e82_23, e82_26, e82_27, e82_30, e82_33, e82_34, e82_37, e82_38, e82_40, e82_43, e82_44, e82_47, e82_50, e82_51, e82_52, e82_53, e82_56, e82_59, e82_60, e82_63, e82_65, e82_66, e82_69, e82_70, e82_73, e82_75, e82_78, e82_79, e82_80, e82_81, e82_81r, e82_82, e82_85, e82_86, e82_89, e82_90, e82_93, e82_94, e82_95, e82_98, e82_101, e82_102, eq_self, kcat_nil, kcat_int, kcat_long, kcat_ref, kNL_int, kNL_ref, kNL_null, Option.toList_some, Option.toList_none, List.nil_append, List.cons_append, Nat.reduceAdd, Nat.reduceLeDiff, Nat.reduceEqDiff, true_and, and_true, true_or, or_true, false_or, or_false, ite_true, ite_false, zh]
        by_cases hkl : k < len
        · rw [if_neg (fun z => z hkl), e82_64]
          rw [if_neg (show ¬ len ≤ k by omega)] at hE hK
          simp only [e82_0, e82_1, e82_2, e82_5, e82_6, e82_7, e82_8, e82_10, e82_13, e82_14, e82_17, e82_18, e82_19, e82_20, e82_23, e82_26, e82_27, e82_30, e82_33, e82_34, e82_37, e82_38, e82_40, e82_43, e82_44, e82_47, e82_50, e82_51, e82_52, e82_53, e82_56, e82_59, e82_60, e82_63, e82_65, e82_66, e82_69, e82_70, e82_75, e82_78, e82_79, e82_80, e82_81, e82_81r, e82_82, e82_85, e82_86, e82_89, e82_90, e82_93, e82_94, e82_95, e82_98, e82_101, e82_102, eq_self, kcat_nil, kcat_int, kcat_long, kcat_ref, kNL_int, kNL_ref, kNL_null, Option.toList_some, Option.toList_none, List.nil_append, List.cons_append, Nat.reduceAdd, Nat.reduceLeDiff, Nat.reduceEqDiff, true_and, and_true, true_or, or_true, false_or, or_false, ite_true, ite_false, my1, n10, if_false]
          refine y_here hT bk.2 hP3 (fun M4 hP4 => ?_)
          rw [bid] at hP4 ⊢
          rw [if_pos hkl]
          have e4 := hP4.2.1
          have hb := hT.2 k hkl
          have z44 : (nI (tx k) = 44) ↔ tx k = 44 := nI_eq_iff (b := 44) (by omega) (by decide)
          simp only [e82_0, e82_1, e82_2, e82_5, e82_6, e82_7, e82_8, e82_10, e82_13, e82_14, e82_17, e82_18, e82_19, e82_20, e82_23, e82_26, e82_27, e82_30, e82_33, e82_34, e82_37, e82_38, e82_40, e82_43, e82_44, e82_47, e82_50, e82_51, e82_52, e82_53, e82_56, e82_59, e82_60, e82_63, e82_65, e82_66, e82_69, e82_70, e82_73, e82_75, e82_78, e82_79, e82_80, e82_81, e82_81r, e82_82, e82_85, e82_86, e82_89, e82_90, e82_93, e82_94, e82_95, e82_98, e82_101, e82_102, eq_self, kcat_nil, kcat_int, kcat_long, kcat_ref, kNL_int, kNL_ref, kNL_null, Option.toList_some, Option.toList_none, List.nil_append, List.cons_append, Nat.reduceAdd, Nat.reduceLeDiff, Nat.reduceEqDiff, true_and, and_true, true_or, or_true, false_or, or_false, ite_true, ite_false, my1, n10, if_false, z44, e4, nI_add1]
          by_cases h44 : tx k = 44
          · rw [if_pos h44] at hE hK ⊢
            exact ih _ (k + 1) (by rw [cnt_nu hs hgs]; omega) (by omega) hg' _ (hP4.mov (k + 1)) hE hK
          · rw [if_neg h44] at hE ⊢
            exact hE rfl _ hP4.1 e4
        · rw [if_pos hkl, e82_64]
          rw [if_pos (show len ≤ k by omega)] at hK
          have e4 := hP3.2.1
          have z0 : nI k + 0 = nI k := Int32.add_zero _
          simp only [e82_0, e82_1, e82_2, e82_5, e82_6, e82_7, e82_8, e82_10, e82_13, e82_14, e82_17, e82_18, e82_19, e82_20, e82_23, e82_26, e82_27, e82_30, e82_33, e82_34, e82_37, e82_38, e82_40, e82_43, e82_44, e82_47, e82_50, e82_51, e82_52, e82_53, e82_56, e82_59, e82_60, e82_63, e82_65, e82_66, e82_69, e82_70, e82_73, e82_75, e82_78, e82_79, e82_80, e82_81, e82_81r, e82_82, e82_85, e82_86, e82_89, e82_90, e82_93, e82_94, e82_95, e82_98, e82_101, e82_102, eq_self, kcat_nil, kcat_int, kcat_long, kcat_ref, kNL_int, kNL_ref, kNL_null, Option.toList_some, Option.toList_none, List.nil_append, List.cons_append, Nat.reduceAdd, Nat.reduceLeDiff, Nat.reduceEqDiff, true_and, and_true, true_or, or_true, false_or, or_false, ite_true, ite_false, my1, e4, z0]
          rw [e82_39]
          simp only [e82_0, e82_1, e82_2, e82_5, e82_6, e82_7, e82_8, e82_10, e82_13, e82_14, e82_17, e82_18, e82_19, e82_20, e82_23, e82_26, e82_27, e82_30, e82_33, e82_34, e82_37, e82_38, e82_40, e82_43, e82_44, e82_47, e82_50, e82_51, e82_52, e82_53, e82_56, e82_59, e82_60, e82_63, e82_65, e82_66, e82_69, e82_70, e82_73, e82_75, e82_78, e82_79, e82_80, e82_81, e82_81r, e82_82, e82_85, e82_86, e82_89, e82_90, e82_93, e82_94, e82_95, e82_98, e82_101, e82_102, eq_self, kcat_nil, kcat_int, kcat_long, kcat_ref, kNL_int, kNL_ref, kNL_null, Option.toList_some, Option.toList_none, List.nil_append, List.cons_append, Nat.reduceAdd, Nat.reduceLeDiff, Nat.reduceEqDiff, true_and, and_true, true_or, or_true, false_or, or_false, ite_true, ite_false]
          exact hK rfl hg' _ (hP3.mov k).1 (hP3.mov k).2.2
  unfold rdN at hE hK
  obtain ⟨k, hk⟩ : ∃ k, k = skN len tx 0 := ⟨_, rfl⟩
  have bk := skN_le (tx := tx) (Nat.zero_le len)
  rw [← hk] at hE hK bk
  have first : ∀ M1, PY len tx (fun _ => 0) 0 M M1 → kE 82 26 [.ref 166, .int (nI 10)] [] M1 Q := by
    intro M1 hP1
    rw [e82_26]
    simp only [e82_0, e82_1, e82_2, e82_5, e82_6, e82_7, e82_8, e82_10, e82_13, e82_14, e82_17, e82_18, e82_19, e82_20, e82_23, e82_27, e82_33, e82_34, e82_37, e82_38, e82_40, e82_43, e82_44, e82_47, e82_50, e82_51, e82_52, e82_53, e82_56, e82_59, e82_60, e82_63, e82_64, e82_65, e82_66, e82_69, e82_70, e82_73, e82_75, e82_78, e82_79, e82_80, e82_81, e82_81r, e82_82, e82_85, e82_86, e82_89, e82_90, e82_93, e82_94, e82_95, e82_98, e82_101, e82_102, eq_self, kcat_nil, kcat_int, kcat_long, kcat_ref, kNL_int, kNL_ref, kNL_null, Option.toList_some, Option.toList_none, List.nil_append, List.cons_append, Nat.reduceAdd, Nat.reduceLeDiff, Nat.reduceEqDiff, true_and, and_true, true_or, or_true, false_or, or_false, ite_true, ite_false, my1]
    refine y_here hT (Nat.zero_le _) hP1 (fun M2 hP2 => ?_)
    rw [← hk] at hP2 ⊢
    simp only [e82_0, e82_1, e82_2, e82_5, e82_6, e82_7, e82_8, e82_10, e82_13, e82_14, e82_17, e82_18, e82_19, e82_20, e82_23, e82_27, e82_30, e82_33, e82_34, e82_37, e82_40, e82_43, e82_44, e82_47, e82_50, e82_51, e82_52, e82_53, e82_56, e82_59, e82_60, e82_63, e82_64, e82_65, e82_66, e82_69, e82_70, e82_73, e82_75, e82_78, e82_79, e82_80, e82_81, e82_81r, e82_82, e82_85, e82_86, e82_89, e82_90, e82_93, e82_94, e82_95, e82_98, e82_101, e82_102, eq_self, kcat_nil, kcat_int, kcat_long, kcat_ref, kNL_int, kNL_ref, kNL_null, Option.toList_some, Option.toList_none, List.nil_append, List.cons_append, Nat.reduceAdd, Nat.reduceLeDiff, Nat.reduceEqDiff, true_and, and_true, true_or, or_true, false_or, or_false, ite_true, ite_false, zh]
    by_cases hkl : k < len
    · rw [if_neg (fun z => z hkl), e82_38]
      rw [if_neg (show ¬ len ≤ k by omega)] at hE hK
      exact ⟨rfl, loop 11 _ k (by decide) bk.2 (fun _ => Nat.zero_le _) M2 hP2 hE hK⟩
    · rw [if_pos hkl, e82_38, e82_39]
      rw [if_pos (show len ≤ k by omega)] at hK
      simp only [e82_0, e82_1, e82_2, e82_5, e82_6, e82_7, e82_8, e82_10, e82_13, e82_14, e82_17, e82_18, e82_19, e82_20, e82_23, e82_27, e82_30, e82_33, e82_34, e82_37, e82_40, e82_43, e82_44, e82_47, e82_50, e82_51, e82_52, e82_53, e82_56, e82_59, e82_60, e82_63, e82_64, e82_65, e82_66, e82_69, e82_70, e82_73, e82_75, e82_78, e82_79, e82_80, e82_81, e82_81r, e82_82, e82_85, e82_86, e82_89, e82_90, e82_93, e82_94, e82_95, e82_98, e82_101, e82_102, eq_self, kcat_nil, kcat_int, kcat_long, kcat_ref, kNL_int, kNL_ref, kNL_null, Option.toList_some, Option.toList_none, List.nil_append, List.cons_append, Nat.reduceAdd, Nat.reduceLeDiff, Nat.reduceEqDiff, true_and, and_true, true_or, or_true, false_or, or_false, ite_true, ite_false]
      exact hK rfl (fun _ => Nat.zero_le _) _ hP2.1 hP2.2.2
  have clr : ∀ d j, j + d = 10 → ∀ M1, WY len tx M M1 → M1 166 7 = nI 0 → (∀ s, s < j → M1 171 s = nI 0 - 1) → kE 82 7 [.ref 166, .int (nI j)] [] M1 Q := by
    intro d
    induction d with
    | zero =>
      intro j hj M1 hW h7 ht
      have : j = 10 := by omega
      subst this
      have le : (10 : Int32) ≤ nI 10 := by decide
      rw [e82_7]
      simp only [e82_0, e82_1, e82_2, e82_5, e82_6, e82_8, e82_10, e82_13, e82_14, e82_17, e82_18, e82_19, e82_20, e82_23, e82_27, e82_30, e82_33, e82_34, e82_37, e82_38, e82_39, e82_40, e82_43, e82_44, e82_47, e82_50, e82_51, e82_52, e82_53, e82_56, e82_59, e82_60, e82_63, e82_64, e82_65, e82_66, e82_69, e82_70, e82_73, e82_75, e82_78, e82_79, e82_80, e82_81, e82_81r, e82_82, e82_85, e82_86, e82_89, e82_90, e82_93, e82_94, e82_95, e82_98, e82_101, e82_102, eq_self, kcat_nil, kcat_int, kcat_long, kcat_ref, kNL_int, kNL_ref, kNL_null, Option.toList_some, Option.toList_none, List.nil_append, List.cons_append, Nat.reduceAdd, Nat.reduceLeDiff, Nat.reduceEqDiff, true_and, and_true, true_or, or_true, false_or, or_false, ite_true, ite_false, le]
      exact first M1 ⟨hW, h7, ht⟩
    | succ d ih =>
      intro j hj M1 hW h7 ht
      have nle : ¬ (10 : Int32) ≤ nI j := by rw [show (10 : Int32) = nI 10 from rfl]; exact nI_ge (by omega) (by decide)
      rw [e82_7]
      simp only [e82_0, e82_1, e82_2, e82_5, e82_6, e82_8, e82_10, e82_13, e82_14, e82_17, e82_18, e82_19, e82_20, e82_23, e82_27, e82_30, e82_33, e82_34, e82_37, e82_38, e82_39, e82_40, e82_43, e82_44, e82_47, e82_50, e82_51, e82_52, e82_53, e82_56, e82_59, e82_60, e82_63, e82_64, e82_65, e82_66, e82_69, e82_70, e82_73, e82_75, e82_78, e82_79, e82_80, e82_81, e82_81r, e82_82, e82_85, e82_86, e82_89, e82_90, e82_93, e82_94, e82_95, e82_98, e82_101, e82_102, eq_self, kcat_nil, kcat_int, kcat_long, kcat_ref, kNL_int, kNL_ref, kNL_null, Option.toList_some, Option.toList_none, List.nil_append, List.cons_append, Nat.reduceAdd, Nat.reduceLeDiff, Nat.reduceEqDiff, true_and, and_true, true_or, or_true, false_or, or_false, ite_true, ite_false, nle, if_false, my1, my6, my11, my16, kin_nI (show j < 10 by omega) (by decide), clN (show j < 2 ^ 31 by omega), nI_add1]
      refine ih (j + 1) (by omega) _ (hW.tol j _) (by rw [mset_off (by decide)]; exact h7) (fun s hs => ?_)
      by_cases hsj : s = j
      · rw [hsj, mset_eq]; rfl
      · rw [mset_ne (by omega)]; exact ht s (by omega)
  simp only [e82_0, e82_1, e82_2, e82_5, e82_6, e82_8, e82_10, e82_13, e82_14, e82_17, e82_18, e82_19, e82_20, e82_23, e82_26, e82_27, e82_30, e82_33, e82_34, e82_37, e82_38, e82_39, e82_40, e82_43, e82_44, e82_47, e82_50, e82_51, e82_52, e82_53, e82_56, e82_59, e82_60, e82_63, e82_64, e82_65, e82_66, e82_69, e82_70, e82_73, e82_75, e82_78, e82_79, e82_80, e82_81, e82_81r, e82_82, e82_85, e82_86, e82_89, e82_90, e82_93, e82_94, e82_95, e82_98, e82_101, e82_102, eq_self, kcat_nil, kcat_int, kcat_long, kcat_ref, kNL_int, kNL_ref, kNL_null, Option.toList_some, Option.toList_none, List.nil_append, List.cons_append, Nat.reduceAdd, Nat.reduceLeDiff, Nat.reduceEqDiff, true_and, and_true, true_or, or_true, false_or, or_false, ite_true, ite_false, my1]
  exact clr 10 0 rfl _ (h.nxt 0) (mset_eq _ _ _ _) (fun s hs => by omega)
end PY
def ldN (p : NR) (g : Nat → Nat) (j : Nat) : NR := fun i => if i < j then g i - 1 else p i
theorem ld_set {p : NR} {g : Nat → Nat} {j : Nat} (i : Nat) : ldN p g (j + 1) i = nu (ldN p g j) j (g j - 1) i := by
  unfold nu
  by_cases h1 : i = j
  · rw [if_pos h1]
    unfold ldN
    rw [if_pos (by omega), h1]
  · rw [if_neg h1]
    unfold ldN
    by_cases h2 : i < j
    · rw [if_pos h2, if_pos (by omega)]
    · rw [if_neg h2, if_neg (by omega)]
theorem op_load : OpOK 37 83 [] := by
  intro S N hN hI
  obtain ⟨len, hlen⟩ : ∃ len, len = S.2.2.2.1 := ⟨_, rfl⟩
  obtain ⟨tx, htx⟩ : ∃ tx, tx = S.2.2.2.2 := ⟨_, rfl⟩
  have hT : TxOk len tx := ⟨by rw [hlen]; exact hI.2.2.2.1, fun j hj => by rw [htx]; exact hI.2.2.2.2 j (by omega)⟩
  have wx : ∀ M, XR S M → WX len tx M M := fun M hX => ⟨fun _ _ => rfl, by rw [hlen]; exact hX.2.2.2.2.1, fun j hj => by rw [htx]; exact hX.2.2.2.2.2.2 j (by omega)⟩
  have wy : ∀ M, YR S M → WY len tx M M := fun M hY => ⟨by rw [hlen]; exact hY.2.2.2.2.1, fun j hj => by rw [htx]; exact hY.2.2.2.2.2.2 j (by omega), fun _ _ _ => rfl, fun _ _ => rfl⟩
  have xw : ∀ M M', XR S M → WX len tx M M' → XR S M' := fun M M' hX hW => by
    have := hX.text (len := len) (tx := tx) hW.1 hW.2.1 hT.1 hW.2.2
    rw [hlen, htx] at this
    exact this
  have yw : ∀ M M', YR S M → WY len tx M M' → YR S M' := fun M M' hY hW => by
    obtain ⟨h1, h2, h3, h4, h5, h6, h7⟩ := hY
    obtain ⟨w1, w2, w3, w4⟩ := hW
    exact ⟨h1.off (w3 167 (by decide) (by decide)), by rw [w4 2 (by decide)]; exact h2, h3, fun j hj i hi => by rw [w3 168 (by decide) (by decide)]; exact h4 j hj i hi, by rw [w4 4 (by decide)]; exact h5, h6, fun i hi => by rw [w3 169 (by decide) (by decide)]; exact h7 i hi⟩
  cases hr : (rdN len tx).1 with
  | false =>
    refine ⟨-10 - nI (rdN len tx).2.1, S, hI.mono, fun M Q hX hQ => ?_, fun M Q hY hQ => ?_⟩
    · show kE 37 0 [.ref 0, .null] [] M Q
      simp only [e37_0, e37_1, e37_4, e37_8, e37_9, e37_10, e37_13, e37_15, e37_16, e37_17, e37_18, e37_19, e37_22, e37_23, e37_26, e37_29, e37_30, e37_33, e37_36, e37_39, e37_40, e37_43, e37_44, e37_47, e37_48, e37_51, e37_54, e37_57, eq_self, kcat_nil, kcat_int, kcat_long, kcat_ref, kNL_int, kNL_ref, kNL_null, Option.toList_some, Option.toList_none, List.nil_append, List.cons_append, Nat.reduceAdd, Nat.reduceLeDiff, Nat.reduceEqDiff, true_and, and_true, true_or, or_true, false_or, or_false, ite_true, ite_false, tp4, tp5, tp7]
      refine x_readPairs hT (wx M hX) (fun _ hp M1 hW => ?_) (fun hc => by rw [hr] at hc; exact absurd hc Bool.false_ne_true)
      have nm : ¬ nI (rdN len tx).2.1 = -1 := fun e => by
        have e := congrArg Int32.toInt e
        rw [nI_toInt (by omega)] at e
        have e2 : (-1 : Int32).toInt = -1 := rfl
        omega
      simp only [e37_0, e37_1, e37_4, e37_7, e37_8, e37_9, e37_10, e37_13, e37_15, e37_16, e37_17, e37_18, e37_19, e37_22, e37_23, e37_26, e37_29, e37_30, e37_33, e37_36, e37_39, e37_40, e37_43, e37_44, e37_47, e37_48, e37_51, e37_54, e37_57, eq_self, kcat_nil, kcat_int, kcat_long, kcat_ref, kNL_int, kNL_ref, kNL_null, Option.toList_some, Option.toList_none, List.nil_append, List.cons_append, Nat.reduceAdd, Nat.reduceLeDiff, Nat.reduceEqDiff, true_and, and_true, true_or, or_true, false_or, or_false, ite_true, ite_false, nm, if_false]
      exact hQ M1 (xw M M1 hX hW) (fun c hc => hW.1 c (by omega))
    · show kE 83 0 [.ref 166, .null] [] M Q
      simp only [e83_0, e83_1, e83_7, e83_9, e83_10, e83_13, e83_14, e83_15, e83_16, e83_19, e83_20, e83_22, e83_24, e83_27, e83_28, e83_31, e83_32, e83_33, e83_34, e83_35, e83_38, e83_39, e83_40, e83_43, e83_44, e83_47, e83_48, e83_51, e83_52, e83_53, e83_54, e83_57, e83_60, e83_61, e83_62, e83_65, e83_66, e83_67, e83_70, eq_self, kcat_nil, kcat_int, kcat_long, kcat_ref, kNL_int, kNL_ref, kNL_null, Option.toList_some, Option.toList_none, List.nil_append, List.cons_append, Nat.reduceAdd, Nat.reduceLeDiff, Nat.reduceEqDiff, true_and, and_true, true_or, or_true, false_or, or_false, ite_true, ite_false, my1]
      refine y_reads hT (wy M hY) (fun _ M1 hW h7 => ?_) (fun hc => by rw [hr] at hc; exact absurd hc Bool.false_ne_true)
      simp only [e83_0, e83_1, e83_4, e83_7, e83_9, e83_10, e83_13, e83_14, e83_15, e83_16, e83_19, e83_20, e83_22, e83_24, e83_27, e83_28, e83_31, e83_32, e83_33, e83_34, e83_35, e83_38, e83_39, e83_40, e83_43, e83_44, e83_47, e83_48, e83_51, e83_52, e83_53, e83_54, e83_57, e83_60, e83_61, e83_62, e83_65, e83_66, e83_67, e83_70, eq_self, kcat_nil, kcat_int, kcat_long, kcat_ref, kNL_int, kNL_ref, kNL_null, Option.toList_some, Option.toList_none, List.nil_append, List.cons_append, Nat.reduceAdd, Nat.reduceLeDiff, Nat.reduceEqDiff, true_and, and_true, true_or, or_true, false_or, or_false, ite_true, ite_false, my1, h7, not_true_eq_false, if_false]
      exact hQ M1 (yw M M1 hY hW) (fun c hc => hW.2.2.1 c (by omega) (by omega))
  | true =>
    obtain ⟨g, hg⟩ : ∃ g, g = (rdN len tx).2.2 := ⟨_, rfl⟩
    have nt : ∀ {P : Prop}, (rdN len tx).1 = false → P := fun hc => by rw [hr] at hc; exact absurd hc (fun z => Bool.false_ne_true z.symm)
    by_cases hgb : ∀ s, g s ≤ 10000
    · have hIq : Inv (ldN S.1 g 10) (N + 1) := hI.1.smpRes (by omega) (fun i h1 _ => if_neg (by omega)) (fun k hk => by
        have := hgb k
        unfold ldN
        rw [if_pos hk]
        omega) (fun k hk => by
        have := hI.1.res k hk
        unfold ldN
        rw [if_neg (by omega)]
        omega)
      refine ⟨nI (sumN (ldN S.1 g 10) 0), (ldN S.1 g 10, (sav S).2.1, (sav S).2.2.1, 0, tx), ⟨hIq, hI.sav.2.1, hI.sav.2.2.1, Nat.zero_le _, fun i hi => absurd hi (Nat.not_lt_zero _)⟩, fun M Q hX hQ => ?_, fun M Q hY hQ => ?_⟩
      · show kE 37 0 [.ref 0, .null] [] M Q
        simp only [e37_0, e37_1, e37_4, e37_8, e37_9, e37_10, e37_13, e37_15, e37_16, e37_17, e37_18, e37_19, e37_22, e37_23, e37_26, e37_29, e37_30, e37_33, e37_36, e37_39, e37_40, e37_43, e37_44, e37_47, e37_48, e37_51, e37_54, e37_57, eq_self, kcat_nil, kcat_int, kcat_long, kcat_ref, kNL_int, kNL_ref, kNL_null, Option.toList_some, Option.toList_none, List.nil_append, List.cons_append, Nat.reduceAdd, Nat.reduceLeDiff, Nat.reduceEqDiff, true_and, and_true, true_or, or_true, false_or, or_false, ite_true, ite_false, tp4, tp5, tp7]
        refine x_readPairs hT (wx M hX) nt (fun _ _ M1 hW hm => ?_)
        rw [← hg] at hm
        simp only [e37_0, e37_1, e37_4, e37_7, e37_8, e37_9, e37_10, e37_13, e37_15, e37_16, e37_17, e37_18, e37_19, e37_23, e37_26, e37_29, e37_30, e37_33, e37_36, e37_39, e37_40, e37_43, e37_44, e37_47, e37_48, e37_51, e37_54, e37_57, eq_self, kcat_nil, kcat_int, kcat_long, kcat_ref, kNL_int, kNL_ref, kNL_null, Option.toList_some, Option.toList_none, List.nil_append, List.cons_append, Nat.reduceAdd, Nat.reduceLeDiff, Nat.reduceEqDiff, true_and, and_true, true_or, or_true, false_or, or_false, ite_true, ite_false, tp4, tp5, tp7]
        refine x_saveState (xw M M1 hX hW) hI.1.f49 (fun M2 hX2 hF _ _ hsame => ?_)
        have hm2 : ∀ k, k < 10 → M2 164 k = nI ((fun s => g s - 1) k) := fun k hk => by rw [hsame 164 (by decide)]; exact hm k hk
        have s1 := hX2.1.cpySmp (g := fun s => g s - 1) hm2 10 (Nat.le_refl _)
        have hR : StR 1 (kcpy M2 164 0 2 0 10) (nr (ldN S.1 g 10)) := s1
        have hR2 : StR 1 (mset (kcpy M2 164 0 2 0 10) 162 3 0) (nr (ldN S.1 g 10)) := hR.off (fun c h1 h2 => mset_off (by omega))
        simp only [e37_0, e37_1, e37_4, e37_7, e37_8, e37_9, e37_10, e37_13, e37_15, e37_16, e37_17, e37_18, e37_19, e37_22, e37_23, e37_26, e37_29, e37_30, e37_33, e37_36, e37_39, e37_40, e37_43, e37_44, e37_47, e37_48, e37_51, e37_54, e37_57, eq_self, kcat_nil, kcat_int, kcat_long, kcat_ref, kNL_int, kNL_ref, kNL_null, Option.toList_some, Option.toList_none, List.nil_append, List.cons_append, Nat.reduceAdd, Nat.reduceLeDiff, Nat.reduceEqDiff, true_and, and_true, true_or, or_true, false_or, or_false, ite_true, ite_false, tp1, tp4, tp5, tp7, tp10, tp18, tp20, x_copyRow (M := M2) tp13 tp25 tp16 tp30 (by decide), x_sum2 hR2]
        have hO : Off 1 M2 (kcpy M2 164 0 2 0 10) := Off.rfl'.cpy (by decide) (by decide)
        have hX3 := hX2.cur hO hR
        refine hQ _ (hX3.text (len := 0) (tx := tx) (fun c hc => mset_off (by omega)) (mset_eq _ _ _ _) (by decide) (fun i hi => absurd hi (Nat.not_lt_zero _))) ?_
        intro c hc
        rw [mset_off (by omega), hO c (by omega), hF c hc, hW.1 c (by omega)]
      · show kE 83 0 [.ref 166, .null] [] M Q
        simp only [e83_0, e83_1, e83_7, e83_9, e83_10, e83_13, e83_14, e83_15, e83_16, e83_19, e83_20, e83_22, e83_24, e83_27, e83_28, e83_31, e83_32, e83_33, e83_34, e83_35, e83_38, e83_39, e83_40, e83_43, e83_44, e83_47, e83_48, e83_51, e83_52, e83_53, e83_54, e83_57, e83_60, e83_61, e83_62, e83_65, e83_66, e83_67, e83_70, eq_self, kcat_nil, kcat_int, kcat_long, kcat_ref, kNL_int, kNL_ref, kNL_null, Option.toList_some, Option.toList_none, List.nil_append, List.cons_append, Nat.reduceAdd, Nat.reduceLeDiff, Nat.reduceEqDiff, true_and, and_true, true_or, or_true, false_or, or_false, ite_true, ite_false, my1]
        refine y_reads hT (wy M hY) nt (fun _ _ M1 hW hm => ?_)
        rw [← hg] at hm
        have n10 : ¬ (1 : Int32) = 0 := by decide
        simp only [e83_0, e83_1, e83_4, e83_7, e83_9, e83_10, e83_13, e83_14, e83_15, e83_16, e83_20, e83_22, e83_24, e83_27, e83_28, e83_31, e83_32, e83_33, e83_34, e83_35, e83_38, e83_39, e83_40, e83_43, e83_44, e83_47, e83_48, e83_51, e83_52, e83_53, e83_54, e83_57, e83_60, e83_61, e83_62, e83_65, e83_66, e83_67, e83_70, eq_self, kcat_nil, kcat_int, kcat_long, kcat_ref, kNL_int, kNL_ref, kNL_null, Option.toList_some, Option.toList_none, List.nil_append, List.cons_append, Nat.reduceAdd, Nat.reduceLeDiff, Nat.reduceEqDiff, true_and, and_true, true_or, or_true, false_or, or_false, ite_true, ite_false, my1, n10, not_false_eq_true]
        refine y_notes (yw M M1 hY hW) (fun M2 hY2 hF hrow hsame _ => ?_)
        have n0 : ∀ j : Nat, (0 : Int32) + nI j = nI j := fun j => Int32.zero_add _
        have loop : ∀ d j, j + d = 10 → ∀ M3, RowM M3 (ldN S.1 g j) → OffY M2 M3 → kE 83 21 [.ref 166, .int (nI j)] [] M3 Q := by
          intro d
          induction d with
          | zero =>
            intro j hj M3 hR3 hO3
            have : j = 10 := by omega
            subst this
            have le : (10 : Int32) ≤ nI 10 := by decide
            have hR4 : RowM (mset M3 166 4 0) (ldN S.1 g 10) := hR3.off (mset_off (by decide))
            have ys : ∀ Q', kE 69 0 [.ref 166, .int 0, .null, .null] [] (mset M3 166 4 0) Q' = Q' (some (.int (nI (sumN (ldN S.1 g 10) 0)))) (mset M3 166 4 0) := fun Q' => y_sum (f := 0) hR4 (by decide)
            rw [e83_21]
            simp only [e83_0, e83_1, e83_4, e83_7, e83_9, e83_10, e83_13, e83_14, e83_15, e83_16, e83_19, e83_20, e83_22, e83_24, e83_27, e83_28, e83_31, e83_32, e83_33, e83_34, e83_35, e83_38, e83_39, e83_40, e83_43, e83_44, e83_47, e83_48, e83_51, e83_52, e83_53, e83_54, e83_57, e83_60, e83_61, e83_62, e83_65, e83_66, e83_67, e83_70, eq_self, kcat_nil, kcat_int, kcat_long, kcat_ref, kNL_int, kNL_ref, kNL_null, Option.toList_some, Option.toList_none, List.nil_append, List.cons_append, Nat.reduceAdd, Nat.reduceLeDiff, Nat.reduceEqDiff, true_and, and_true, true_or, or_true, false_or, or_false, ite_true, ite_false, le, my1, ys]
            obtain ⟨h1, h2, h3, h4, h5, h6, h7⟩ := hY2
            refine hQ _ ⟨hR4, by rw [mset_ne (by omega), hO3 166 (by decide)]; exact h2, h3, fun j hj i hi => by rw [mset_off (by decide), hO3 168 (by decide)]; exact h4 j hj i hi, mset_eq _ _ _ _, Nat.zero_le _, fun i hi => absurd hi (Nat.not_lt_zero _)⟩ ?_
            intro c hc
            rw [mset_off (by omega), hO3 c (by omega), hF c hc]
            exact hW.2.2.1 c (by omega) (by omega)
          | succ d ih =>
            intro j hj M3 hR3 hO3
            have nle : ¬ (10 : Int32) ≤ nI j := by rw [li10]; exact nI_ge (by omega) (by decide)
            have hj10 : j < 10 := by omega
            have ht : M3 171 j = nI (g j) - 1 := by rw [hO3 171 (by decide), hsame 171 (by decide)]; exact hm j hj10
            have nx := ih (j + 1) (by omega) _ ((hR3.set j (g j - 1)).congr (fun i _ => ld_set i)) (hO3.set _ _)
            rw [e83_21]
            simp only [e83_0, e83_1, e83_4, e83_7, e83_9, e83_10, e83_13, e83_14, e83_15, e83_16, e83_19, e83_20, e83_22, e83_24, e83_27, e83_28, e83_31, e83_32, e83_33, e83_34, e83_35, e83_38, e83_39, e83_40, e83_43, e83_44, e83_47, e83_48, e83_51, e83_52, e83_54, e83_57, e83_60, e83_61, e83_62, e83_65, e83_66, e83_67, e83_70, eq_self, kcat_nil, kcat_int, kcat_long, kcat_ref, kNL_int, kNL_ref, kNL_null, Option.toList_some, Option.toList_none, List.nil_append, List.cons_append, Nat.reduceAdd, Nat.reduceLeDiff, Nat.reduceEqDiff, true_and, and_true, true_or, or_true, false_or, or_false, ite_true, ite_false, nle, if_false, my1, my2, my6, my7, my11, my12, my16, n0, kin_nI (show j < 10 by omega) (by decide), clN (show j < 2 ^ 31 by omega), ht]
            by_cases hz : g j = 0
            · rw [hz] at nx ⊢
              have c0 : ¬ (0 : Int32) ≤ nI 0 - 1 := by decide
              rw [if_neg c0, e83_53]
              simp only [e83_0, e83_1, e83_4, e83_7, e83_9, e83_10, e83_13, e83_14, e83_15, e83_16, e83_19, e83_20, e83_22, e83_24, e83_27, e83_28, e83_31, e83_32, e83_33, e83_34, e83_35, e83_38, e83_39, e83_40, e83_43, e83_44, e83_47, e83_48, e83_51, e83_52, e83_54, e83_57, e83_60, e83_61, e83_62, e83_65, e83_66, e83_67, e83_70, eq_self, kcat_nil, kcat_int, kcat_long, kcat_ref, kNL_int, kNL_ref, kNL_null, Option.toList_some, Option.toList_none, List.nil_append, List.cons_append, Nat.reduceAdd, Nat.reduceLeDiff, Nat.reduceEqDiff, true_and, and_true, true_or, or_true, false_or, or_false, ite_true, ite_false, my7, my12, kin_nI (show j < 137 by omega) (by decide), clN (show j < 2 ^ 31 by omega), nI_add1]
              exact nx
            · have hb := hgb j
              have sb : nI (g j) - 1 = nI (g j - 1) := by rw [show (1 : Int32) = nI 1 from rfl, pk_sub (by omega)]
              have c0 : (0 : Int32) ≤ nI (g j - 1) := nI_le (a := 0) (Nat.zero_le _) (by omega)
              rw [sb, if_pos c0]
              rw [e83_53]
              simp only [e83_0, e83_1, e83_4, e83_7, e83_9, e83_10, e83_13, e83_14, e83_15, e83_16, e83_19, e83_20, e83_22, e83_24, e83_27, e83_28, e83_31, e83_32, e83_33, e83_34, e83_35, e83_38, e83_39, e83_40, e83_43, e83_44, e83_47, e83_48, e83_51, e83_52, e83_54, e83_57, e83_60, e83_61, e83_62, e83_65, e83_66, e83_67, e83_70, eq_self, kcat_nil, kcat_int, kcat_long, kcat_ref, kNL_int, kNL_ref, kNL_null, Option.toList_some, Option.toList_none, List.nil_append, List.cons_append, Nat.reduceAdd, Nat.reduceLeDiff, Nat.reduceEqDiff, true_and, and_true, true_or, or_true, false_or, or_false, ite_true, ite_false, my7, my12, kin_nI (show j < 137 by omega) (by decide), clN (show j < 2 ^ 31 by omega), nI_add1]
              exact nx
        simp only [e83_0, e83_1, e83_4, e83_7, e83_9, e83_10, e83_13, e83_14, e83_15, e83_16, e83_19, e83_20, e83_22, e83_24, e83_27, e83_28, e83_31, e83_32, e83_33, e83_34, e83_35, e83_38, e83_39, e83_40, e83_43, e83_44, e83_47, e83_48, e83_51, e83_52, e83_53, e83_54, e83_57, e83_60, e83_61, e83_62, e83_65, e83_66, e83_67, e83_70, eq_self, kcat_nil, kcat_int, kcat_long, kcat_ref, kNL_int, kNL_ref, kNL_null, Option.toList_some, Option.toList_none, List.nil_append, List.cons_append, Nat.reduceAdd, Nat.reduceLeDiff, Nat.reduceEqDiff, true_and, and_true, true_or, or_true, false_or, or_false, ite_true, ite_false]
        exact loop 10 0 rfl M2 (hY2.1.congr (fun i _ => if_neg (Nat.not_lt_zero _))) OffY.rfl'
    · refine ⟨0, S, hI.mono, fun M Q hX hQ => ?_, fun M Q hY hQ => ?_⟩
      · show kE 37 0 [.ref 0, .null] [] M Q
        simp only [e37_0, e37_1, e37_4, e37_8, e37_9, e37_10, e37_13, e37_15, e37_16, e37_17, e37_18, e37_19, e37_22, e37_23, e37_26, e37_29, e37_30, e37_33, e37_36, e37_39, e37_40, e37_43, e37_44, e37_47, e37_48, e37_51, e37_54, e37_57, eq_self, kcat_nil, kcat_int, kcat_long, kcat_ref, kNL_int, kNL_ref, kNL_null, Option.toList_some, Option.toList_none, List.nil_append, List.cons_append, Nat.reduceAdd, Nat.reduceLeDiff, Nat.reduceEqDiff, true_and, and_true, true_or, or_true, false_or, or_false, ite_true, ite_false, tp4, tp5, tp7]
        exact x_readPairs hT (wx M hX) nt (fun _ hb => by rw [← hg] at hb; exact absurd hb hgb)
      · show kE 83 0 [.ref 166, .null] [] M Q
        simp only [e83_0, e83_1, e83_7, e83_9, e83_10, e83_13, e83_14, e83_15, e83_16, e83_19, e83_20, e83_22, e83_24, e83_27, e83_28, e83_31, e83_32, e83_33, e83_34, e83_35, e83_38, e83_39, e83_40, e83_43, e83_44, e83_47, e83_48, e83_51, e83_52, e83_53, e83_54, e83_57, e83_60, e83_61, e83_62, e83_65, e83_66, e83_67, e83_70, eq_self, kcat_nil, kcat_int, kcat_long, kcat_ref, kNL_int, kNL_ref, kNL_null, Option.toList_some, Option.toList_none, List.nil_append, List.cons_append, Nat.reduceAdd, Nat.reduceLeDiff, Nat.reduceEqDiff, true_and, and_true, true_or, or_true, false_or, or_false, ite_true, ite_false, my1]
        exact y_reads hT (wy M hY) nt (fun _ hb => by rw [← hg] at hb; exact absurd hb hgb)
