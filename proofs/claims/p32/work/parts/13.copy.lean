/-! State.copyFrom -/
def CpN (o o' : Nat) (P : Nat → Nat → Prop) (M M' : KMem) : Prop := (∀ d j, P d j → M' (o + d) j = M (o' + d) j) ∧ Off o M M'
theorem CpN.row {o o' d a b : Nat} {P : Nat → Nat → Prop} {M M1 : KMem} (h : CpN o o' P M M1) (hd : d < 20) (hap : o + 20 ≤ o' ∨ o' + 20 ≤ o) (ha : a = o' + d) (hb : b = o + d) : CpN o o' (fun e j => P e j ∨ (e = d ∧ j < 10)) M (kcpy M1 a 0 b 0 10) := by
  subst ha hb
  have e1 : M1 (o' + d) = M (o' + d) := h.2 _ (by omega)
  refine ⟨fun e j hP => ?_, fun c hc => by rw [kcpy_off (by omega)]; exact h.2 c hc⟩
  by_cases he : e = d
  · subst he
    rw [kcpy_on]
    by_cases hj : j < 10
    · rw [if_pos hj, e1]
    · rw [if_neg hj]
      exact h.1 e j (hP.elim id (fun q => absurd q.2 hj))
  · rw [kcpy_off (by omega)]
    exact h.1 e j (hP.elim id (fun q => absurd q.1 he))
theorem CpN.cell {o o' d b j0 : Nat} {v : Int32} {P : Nat → Nat → Prop} {M M1 : KMem} (h : CpN o o' P M M1) (hd : d < 20) (hb : b = o + d) (hv : v = M (o' + d) j0) : CpN o o' (fun e j => P e j ∨ (e = d ∧ j = j0)) M (mset M1 b j0 v) := by
  subst hb hv
  refine ⟨fun e j hP => ?_, h.2.mset (by omega) (by omega)⟩
  by_cases he : e = d ∧ j = j0
  · obtain ⟨rfl, rfl⟩ := he
    rw [mset_eq]
  · rw [mset_ne (fun q => he ⟨by omega, q.2⟩)]
    exact h.1 e j (hP.elim id (fun q => absurd q he))
theorem CpN.weaken {o o' : Nat} {P P' : Nat → Nat → Prop} {M M1 : KMem} (h : CpN o o' P M M1) (hP : ∀ d j, P' d j → P d j) : CpN o o' P' M M1 := ⟨fun d j q => h.1 d j (hP d j q), h.2⟩
theorem CpN.fld {o o' k : Nat} {v : Int32} {R : Nat → Nat → Prop} {M M1 : KMem} (h : CpN o o' (fun e j => R e j ∨ (e = 0 ∧ 5 ≤ j ∧ j < k)) M M1) (hv : v = M o' k) : CpN o o' (fun e j => R e j ∨ (e = 0 ∧ 5 ≤ j ∧ j < k + 1)) M (mset M1 o k v) :=
  (h.cell (d := 0) (j0 := k) (by decide) rfl hv).weaken (fun d j q => by
    rcases q with q | ⟨q1, q2, q3⟩
    · exact Or.inl (Or.inl q)
    · by_cases hj : j = k
      · exact Or.inr ⟨q1, hj⟩
      · exact Or.inl (Or.inr ⟨q1, q2, by omega⟩))
def kval (d j : Nat) : Prop := (d = 0 ∧ 5 ≤ j ∧ j < 14) ∨ ((d = 1 ∨ d = 2 ∨ d = 4 ∨ d = 5) ∧ j < 10) ∨ (6 ≤ d ∧ d < 20 ∧ ((d % 2 = 0 ∧ 1 ≤ j ∧ j < 4) ∨ (d % 2 = 1 ∧ j < 10)))
theorem l_val {i : Nat} (hi : i < 137) : kval (la i) (lb i) := by
  have key : ∀ i, i < 137 → (la i = 0 ∧ 5 ≤ lb i ∧ lb i < 14) ∨ ((la i = 1 ∨ la i = 2 ∨ la i = 4 ∨ la i = 5) ∧ lb i < 10) ∨ (6 ≤ la i ∧ la i < 20 ∧ ((la i % 2 = 0 ∧ 1 ≤ lb i ∧ lb i < 4) ∨ (la i % 2 = 1 ∧ lb i < 10))) := by decide +kernel
  exact key i hi
theorem CpN.st {o o' : Nat} {M M1 : KMem} {r : Row} (h : CpN o o' kval M M1) (hR : StR o' M r) : StR o M1 r := by
  refine ⟨fun i hi ha => ?_, fun t ht hs => ?_, fun t ht hs => ?_⟩
  · rw [h.1 _ _ (l_val hi)]
    exact hR.1 i hi ha
  · rw [Nat.add_assoc, h.1 _ _ (by unfold kval; omega), ← Nat.add_assoc]
    exact hR.2.1 t ht hs
  · rw [Nat.add_assoc, h.1 _ _ (by unfold kval; omega), ← Nat.add_assoc]
    exact hR.2.2 t ht hs
theorem x_copyFrom {o o' : Nat} {M : KMem} {r : Row} {Q : Option Value → KMem → Prop} (ho : isSt o) (ho' : isSt o') (hne : o ≠ o') (hR : StR o' M r) (hz : r 49 = 0 ∨ r 49 = 1) (hQ : ∀ M', StR o M' r → Off o M M' → Q none M') :
    kE 0 0 [.ref o, .ref o', .null] [] M Q := by
  have hap := st_apart ho ho' hne
  have loop : ∀ d t, t + d = 7 → ∀ M1, CpN o o' (fun e j => ((e = 1 ∨ e = 2) ∧ j < 10) ∨ (6 ≤ e ∧ e < 6 + 2 * t ∧ ((e % 2 = 0 ∧ 1 ≤ j ∧ j < 4) ∨ (e % 2 = 1 ∧ j < 10)))) M M1 → kE 0 24 [.ref o, .ref o', .int (nI t)] [] M1 Q := by
    intro d
    induction d with
    | zero =>
      intro t ht M1 h
      have : t = 7 := by omega
      subst this
      have e10 : M1 o' 10 = 0 ∨ M1 o' 10 = 1 := by
        rw [h.2 o' (by omega), hR.f49]; exact hz
      have lt67 : (6 : Int32) < nI 7 := by decide
      have eo : M1 o' = M o' := h.2 o' (by omega)
      have n1 : o' ≠ o + 4 := by omega
      have n2 : o' ≠ o + 5 := by omega
      rw [e0_24]
      simp only [e0_0, e0_1, e0_4, e0_5, e0_8, e0_11, e0_12, e0_15, e0_16, e0_19, e0_22, e0_23, e0_25, e0_27, e0_30, e0_31, e0_34, e0_35, e0_36, e0_37, e0_40, e0_41, e0_42, e0_45, e0_48, e0_51, e0_52, e0_55, e0_56, e0_59, e0_62, e0_63, e0_66, e0_67, e0_70, e0_73, e0_74, e0_75, e0_78, e0_81, e0_82, e0_83, e0_86, e0_89, e0_90, e0_91, e0_94, e0_97, e0_98, e0_99, e0_102, e0_105, e0_106, e0_107, e0_110, e0_113, e0_114, e0_115, e0_118, e0_121, e0_122, e0_123, e0_126, e0_129, e0_130, e0_131, e0_134, e0_137, e0_138, e0_139, e0_142, e0_145, eq_self, kcat_nil, kcat_int, kcat_long, kcat_ref, kNL_int, kNL_ref, kNL_null, Option.toList_some, Option.toList_none, List.nil_append, List.cons_append, Nat.reduceAdd, Nat.reduceLeDiff, Nat.reduceEqDiff, true_and, and_true, true_or, or_true, false_or, or_false, ite_true, ite_false, lt67, kd_o ho, kd_o ho', rf_o3 ho, rf_o3 ho', rf_o4 ho, rf_o4 ho', x_copyRow (kd_o4 ho') (kd_o4 ho) (ln_o4 ho') (ln_o4 ho) (by decide), x_copyRow (kd_o5 ho') (kd_o5 ho) (ln_o5 ho') (ln_o5 ho) (by decide), mset_off hne.symm, kcpy_off n1, kcpy_off n2, e10]
      have C0 := ((h.row (d := 4) (by decide) hap rfl rfl).row (d := 5) (by decide) hap rfl rfl).weaken (P' := fun e j => (((e = 1 ∨ e = 2 ∨ e = 4 ∨ e = 5) ∧ j < 10) ∨ (6 ≤ e ∧ e < 20 ∧ ((e % 2 = 0 ∧ 1 ≤ j ∧ j < 4) ∨ (e % 2 = 1 ∧ j < 10)))) ∨ (e = 0 ∧ 5 ≤ j ∧ j < 5)) (fun d j q => by
        rcases q with (⟨q1 | q1 | q1 | q1, q2⟩ | q) | q
        · exact Or.inl (Or.inl (Or.inl ⟨Or.inl q1, q2⟩))
        · exact Or.inl (Or.inl (Or.inl ⟨Or.inr q1, q2⟩))
        · exact Or.inl (Or.inr ⟨q1, q2⟩)
        · exact Or.inr ⟨q1, q2⟩
        · exact Or.inl (Or.inl (Or.inr ⟨q.1, by omega, q.2.2⟩))
        · omega)
      have C := ((((((((C0.fld (v := M1 o' 5) (by rw [eo])).fld (v := M1 o' 6) (by rw [eo])).fld (v := M1 o' 7) (by rw [eo])).fld (v := M1 o' 8) (by rw [eo])).fld (v := M1 o' 9) (by rw [eo])).fld (v := M1 o' 10) (by rw [eo])).fld (v := M1 o' 11) (by rw [eo])).fld (v := M1 o' 12) (by rw [eo])).fld (v := M1 o' 13) (by rw [eo])
      have C2 := C.weaken (P' := kval) (fun d j q => by
        rcases q with q | q | q
        · exact Or.inr q
        · exact Or.inl (Or.inl q)
        · exact Or.inl (Or.inr q))
      exact hQ _ (C2.st hR) C2.2
    | succ d ih =>
      intro t ht M1 h
      have ht7 : t < 7 := by omega
      have nlt : ¬ (6 : Int32) < nI t := by rw [show (6 : Int32) = nI 6 from rfl, nI_lt_iff (by decide) (by omega)]; omega
      rw [e0_24]
      simp only [e0_0, e0_1, e0_4, e0_5, e0_8, e0_11, e0_12, e0_15, e0_16, e0_19, e0_22, e0_23, e0_25, e0_27, e0_30, e0_31, e0_34, e0_35, e0_36, e0_37, e0_40, e0_41, e0_42, e0_45, e0_48, e0_51, e0_52, e0_55, e0_56, e0_59, e0_62, e0_63, e0_66, e0_67, e0_70, e0_73, e0_74, e0_75, e0_78, e0_81, e0_82, e0_83, e0_86, e0_89, e0_90, e0_91, e0_94, e0_97, e0_98, e0_99, e0_102, e0_105, e0_106, e0_107, e0_110, e0_113, e0_114, e0_115, e0_118, e0_121, e0_122, e0_123, e0_126, e0_129, e0_130, e0_131, e0_134, e0_137, e0_138, e0_139, e0_142, e0_145, eq_self, kcat_nil, kcat_int, kcat_long, kcat_ref, kNL_int, kNL_ref, kNL_null, Option.toList_some, Option.toList_none, List.nil_append, List.cons_append, Nat.reduceAdd, Nat.reduceLeDiff, Nat.reduceEqDiff, true_and, and_true, true_or, or_true, false_or, or_false, ite_true, ite_false, nlt, if_false, kd_o ho, kd_o ho', rf_o2 ho, rf_o2 ho', kd_o3 ho, kd_o3 ho', ln_o3 ho, ln_o3 ho', kin_nI ht7 (by decide), nI_clamp (show t < 2 ^ 31 by omega), rf_tr ho, rf_tr ho', kd_tr ho ht7, nI_add1]
      rw [x_tcopy (kd_tr ho ht7) (rf_ly ho ht7) (kd_ly ho ht7) (ln_ly ho ht7) (kd_tr ho' ht7) (rf_ly ho' ht7) (kd_ly ho' ht7) (ln_ly ho' ht7) (by omega)]
      simp only [e0_0, e0_1, e0_4, e0_5, e0_8, e0_11, e0_12, e0_15, e0_16, e0_19, e0_22, e0_23, e0_25, e0_27, e0_30, e0_31, e0_34, e0_35, e0_36, e0_37, e0_40, e0_41, e0_42, e0_45, e0_48, e0_51, e0_52, e0_55, e0_56, e0_59, e0_62, e0_63, e0_66, e0_67, e0_70, e0_73, e0_74, e0_75, e0_78, e0_81, e0_82, e0_83, e0_86, e0_89, e0_90, e0_91, e0_94, e0_97, e0_98, e0_99, e0_102, e0_105, e0_106, e0_107, e0_110, e0_113, e0_114, e0_115, e0_118, e0_121, e0_122, e0_123, e0_126, e0_129, e0_130, e0_131, e0_134, e0_137, e0_138, e0_139, e0_142, e0_145, eq_self, kcat_nil, kcat_int, kcat_long, kcat_ref, kNL_int, kNL_ref, kNL_null, Option.toList_some, Option.toList_none, List.nil_append, List.cons_append, Nat.reduceAdd, Nat.reduceLeDiff, Nat.reduceEqDiff, true_and, and_true, true_or, or_true, false_or, or_false, ite_true, ite_false]
      refine ih (t + 1) (by omega) _ ?_
      have eo : M1 (o' + 6 + 2 * t) = M (o' + 6 + 2 * t) := h.2 _ (by omega)
      have C := (((h.row (d := 7 + 2 * t) (a := o' + 7 + 2 * t) (b := o + 7 + 2 * t) (by omega) hap (by omega) (by omega)).cell (d := 6 + 2 * t) (j0 := 1) (b := o + 6 + 2 * t) (v := M1 (o' + 6 + 2 * t) 1) (by omega) (by omega) (by rw [eo, ← Nat.add_assoc])).cell (d := 6 + 2 * t) (j0 := 2) (b := o + 6 + 2 * t) (v := M1 (o' + 6 + 2 * t) 2) (by omega) (by omega) (by rw [eo, ← Nat.add_assoc])).cell (d := 6 + 2 * t) (j0 := 3) (b := o + 6 + 2 * t) (v := M1 (o' + 6 + 2 * t) 3) (by omega) (by omega) (by rw [eo, ← Nat.add_assoc])
      exact C.weaken (fun d j q => by
        rcases q with q | ⟨q1, q2, q3⟩
        · exact Or.inl (Or.inl (Or.inl (Or.inl (Or.inl q))))
        · by_cases hlt : d < 6 + 2 * t
          · exact Or.inl (Or.inl (Or.inl (Or.inl (Or.inr ⟨q1, hlt, q3⟩))))
          · rcases q3 with ⟨q4, q5, q6⟩ | ⟨q4, q5⟩
            · have hd : d = 6 + 2 * t := by omega
              rcases (show j = 1 ∨ j = 2 ∨ j = 3 by omega) with z | z | z
              · exact Or.inl (Or.inl (Or.inr ⟨hd, z⟩))
              · exact Or.inl (Or.inr ⟨hd, z⟩)
              · exact Or.inr ⟨hd, z⟩
            · exact Or.inl (Or.inl (Or.inl (Or.inr ⟨by omega, q5⟩))))
  have C0 : CpN o o' (fun _ _ => False) M M := ⟨fun _ _ q => q.elim, Off.rfl'⟩
  simp only [e0_0, e0_1, e0_4, e0_5, e0_8, e0_11, e0_12, e0_15, e0_16, e0_19, e0_22, e0_23, e0_25, e0_27, e0_30, e0_31, e0_34, e0_35, e0_36, e0_37, e0_40, e0_41, e0_42, e0_45, e0_48, e0_51, e0_52, e0_55, e0_56, e0_59, e0_62, e0_63, e0_66, e0_67, e0_70, e0_73, e0_74, e0_75, e0_78, e0_81, e0_82, e0_83, e0_86, e0_89, e0_90, e0_91, e0_94, e0_97, e0_98, e0_99, e0_102, e0_105, e0_106, e0_107, e0_110, e0_113, e0_114, e0_115, e0_118, e0_121, e0_122, e0_123, e0_126, e0_129, e0_130, e0_131, e0_134, e0_137, e0_138, e0_139, e0_142, e0_145, eq_self, kcat_nil, kcat_int, kcat_long, kcat_ref, kNL_int, kNL_ref, kNL_null, Option.toList_some, Option.toList_none, List.nil_append, List.cons_append, Nat.reduceAdd, Nat.reduceLeDiff, Nat.reduceEqDiff, true_and, and_true, true_or, or_true, false_or, or_false, ite_true, ite_false, kd_o ho, kd_o ho', rf_o0 ho, rf_o0 ho', rf_o1 ho, rf_o1 ho', x_copyRow (kd_o1 ho') (kd_o1 ho) (ln_o1 ho') (ln_o1 ho) (by decide), x_copyRow (kd_o2 ho') (kd_o2 ho) (ln_o2 ho') (ln_o2 ho) (by decide)]
  exact loop 7 0 rfl _ (((C0.row (d := 1) (by decide) hap rfl rfl).row (d := 2) (by decide) hap rfl rfl).weaken (fun d j q => by
    rcases q with ⟨q1 | q1, q2⟩ | q
    · exact Or.inl (Or.inr ⟨q1, q2⟩)
    · exact Or.inr ⟨q1, q2⟩
    · omega))
