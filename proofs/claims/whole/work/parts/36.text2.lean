/-! the text: pairs -/
abbrev prA (len : Nat) (tx g : Nat → Nat) (i : Nat) : Prop := i < len ∧ (48 ≤ tx i ∧ tx i ≤ 57) ∧ g (tx i - 48) = 0
def prr (len : Nat) (tx g : Nat → Nat) (i : Nat) : Bool × Nat × Nat × Nat :=
  if prA len tx g (skN len tx i) then
    if skN len tx (skN len tx i + 1) < len ∧ tx (skN len tx (skN len tx i + 1)) = 58 then
      if okM tx (skN len tx (skN len tx (skN len tx i + 1) + 1)) (dgN len tx (skN len tx (skN len tx (skN len tx i + 1) + 1))) then
        (true, dgN len tx (skN len tx (skN len tx (skN len tx i + 1) + 1)), tx (skN len tx i) - 48, vaG tx (skN len tx (skN len tx (skN len tx i + 1) + 1)) (dgN len tx (skN len tx (skN len tx (skN len tx i + 1) + 1)) - skN len tx (skN len tx (skN len tx i + 1) + 1)))
      else (false, skN len tx (skN len tx (skN len tx i + 1) + 1), 0, 0)
    else (false, skN len tx (skN len tx i + 1), 0, 0)
  else (false, skN len tx i, 0, 0)
theorem vaG_lt (tx : Nat → Nat) (i : Nat) : ∀ n, (∀ j, j < n → tx (i + j) ≤ 57) → vaG tx i n < 10 ^ n := by
  intro n
  induction n with
  | zero => intro _; exact Nat.one_pos
  | succ n ih =>
    intro h
    have a := ih (fun j hj => h j (by omega))
    have b := h n (by omega)
    rw [vaG, Nat.pow_succ]
    omega
def WX (len : Nat) (tx : Nat → Nat) (M0 M : KMem) : Prop := (∀ c, c < 162 ∨ 166 ≤ c → M c = M0 c) ∧ M 162 3 = nI len ∧ (∀ j, j < len → M 163 j = nI (tx j))
theorem n71 : knar 7 1 = 1 := by decide
theorem n70 : knar 7 0 = 0 := by decide
section PX
variable {len : Nat} {tx g : Nat → Nat} {i : Nat} {M0 M : KMem} {Q : Option Value → KMem → Prop}
theorem PX.wx (h : PX len tx g i M0 M) : WX len tx M0 M := ⟨h.2.2.2.2, h.1, h.2.1⟩
theorem x_readPair (hT : TxOk len tx) (hi : i ≤ len) (h : PX len tx g i M0 M)
    (hE : ∀ p, prr len tx g i = (false, p, 0, 0) → p ≤ len → ∀ M', WX len tx M0 M' → Q (some (.int (nI p))) M')
    (hK : ∀ e s v, prr len tx g i = (true, e, s, v) → s < 10 → e ≤ len → g s = 0 → v ≤ 9999 → ∀ M', PX len tx (nu g s (v + 1)) e M0 M' → Q (some (.int (-1))) M') : kE 2 0 [.ref 162, .null] [] M Q := by
  have n10 : ¬ (1 : Int32) = 0 := by decide
  have hl := hT.1
  obtain ⟨i1, h1⟩ : ∃ i1, i1 = skN len tx i := ⟨_, rfl⟩
  obtain ⟨i2, h2⟩ : ∃ i2, i2 = skN len tx (i1 + 1) := ⟨_, rfl⟩
  obtain ⟨i3, h3⟩ : ∃ i3, i3 = skN len tx (i2 + 1) := ⟨_, rfl⟩
  obtain ⟨e, he⟩ : ∃ e, e = dgN len tx i3 := ⟨_, rfl⟩
  unfold prr at hE hK
  rw [← h1, ← h2, ← h3, ← he] at hE hK
  have b1 := skN_le (tx := tx) hi
  rw [← h1] at b1
  simp only [e2_0, e2_1, e2_5, e2_8, e2_11, e2_12, e2_15, e2_16, e2_17, e2_20, e2_21, e2_22, e2_25, e2_26, e2_27, e2_30, e2_31, e2_34, e2_35, e2_36, e2_39, e2_40, e2_41, e2_42, e2_43, e2_43r, e2_44, e2_47, e2_48, e2_49, e2_52, e2_53, e2_56, e2_57, e2_59, e2_62, e2_65, e2_66, e2_69, e2_70, e2_71, e2_71r, e2_72, e2_75, e2_76, e2_77, e2_80, e2_81, e2_84, e2_85, e2_86, e2_89, eq_self, kcat_nil, kcat_int, kcat_long, kcat_ref, kNL_int, kNL_ref, kNL_null, Option.toList_some, Option.toList_none, List.nil_append, List.cons_append, Nat.reduceAdd, Nat.reduceLeDiff, Nat.reduceEqDiff, true_and, and_true, true_or, or_true, false_or, or_false, ite_true, ite_false, tp7]
  refine x_skip hT hi h (fun M1 hP1 => ?_)
  rw [← h1] at hP1
  have dg := fun Q' => x_isDigit (Q := Q') hT b1.2 hP1
  have e1 := hP1.2.2.1
  by_cases hd : i1 < len ∧ 48 ≤ tx i1 ∧ tx i1 ≤ 57
  · have dv := fun Q' => x_digit (Q := Q') hT hd.1 hd.2.1 hP1
    obtain ⟨s, hs⟩ : ∃ s, s = tx i1 - 48 := ⟨_, rfl⟩
    have hs10 : s < 10 := by omega
    have e165 := (hP1.2.2.2.1 s hs10).2
    by_cases hg : g s = 0
    · have hA : prA len tx g i1 := ⟨hd.1, hd.2, by rw [← hs]; exact hg⟩
      rw [if_pos hA] at hE hK
      rw [if_pos hg] at e165
      have b2 := skN_le (len := len) (tx := tx) (i := i1 + 1) (by omega)
      rw [← h2] at b2
      simp only [e2_0, e2_1, e2_4, e2_5, e2_8, e2_11, e2_12, e2_15, e2_16, e2_17, e2_20, e2_21, e2_22, e2_25, e2_26, e2_27, e2_30, e2_31, e2_34, e2_35, e2_36, e2_39, e2_40, e2_41, e2_42, e2_43, e2_43r, e2_44, e2_47, e2_48, e2_49, e2_52, e2_53, e2_57, e2_59, e2_62, e2_65, e2_66, e2_69, e2_70, e2_71, e2_71r, e2_72, e2_75, e2_76, e2_77, e2_80, e2_81, e2_84, e2_85, e2_86, e2_89, eq_self, kcat_nil, kcat_int, kcat_long, kcat_ref, kNL_int, kNL_ref, kNL_null, Option.toList_some, Option.toList_none, List.nil_append, List.cons_append, Nat.reduceAdd, Nat.reduceLeDiff, Nat.reduceEqDiff, true_and, and_true, true_or, or_true, false_or, or_false, ite_true, ite_false, dg, hd, and_self, n10, not_false_eq_true, dv, ← hs, tp7, tp11, tp14, tp17, kin_nI (show s < 10 by omega) (by decide), clN (show s < 2 ^ 31 by omega), e165, e1, n71, nI_add1, mset_off (show (162 : Nat) ≠ 165 by decide)]
      have hP2 : PX len tx (nu g s 1) (i1 + 1) M0 (mset (mset M1 165 s 1) 162 4 (nI (i1 + 1))) := by
        refine PX.mov (i := i1) ?_ _
        obtain ⟨p1, p2, p3, p4, p5⟩ := hP1
        refine ⟨by rw [mset_off (by decide)]; exact p1, fun k hk => by rw [mset_off (by decide)]; exact p2 k hk, by rw [mset_off (by decide)]; exact p3, fun r hr => ?_, fun c hc => by rw [mset_off (by omega)]; exact p5 c hc⟩
        rw [mset_off (show (164 : Nat) ≠ 165 by decide)]
        by_cases hrs : r = s
        · rw [hrs, nu_eq, mset_eq, if_neg (by decide)]
          have := (p4 s hs10).1
          rw [hg] at this
          exact ⟨this, rfl⟩
        · rw [nu_ne hrs, mset_ne (by omega)]
          exact p4 r hr
      refine x_skip hT (by omega) hP2 (fun M3 hP3 => ?_)
      rw [← h2] at hP3
      have sg := fun Q' => x_isSign (Q := Q') (c := 58) hT b2.2 (by decide) hP3
      rw [show nI 58 = (58 : Int32) from rfl] at sg
      have e3 := hP3.2.2.1
      by_cases hB : i2 < len ∧ tx i2 = 58
      · rw [if_pos hB] at hE hK
        have b3 := skN_le (len := len) (tx := tx) (i := i2 + 1) (by omega)
        rw [← h3] at b3
        have b4 := dgN_le (tx := tx) b3.2
        rw [← he] at b4
        simp only [e2_0, e2_1, e2_4, e2_5, e2_8, e2_11, e2_12, e2_15, e2_16, e2_17, e2_20, e2_21, e2_22, e2_25, e2_26, e2_27, e2_30, e2_31, e2_34, e2_35, e2_36, e2_39, e2_40, e2_41, e2_42, e2_43, e2_43r, e2_44, e2_47, e2_48, e2_49, e2_52, e2_53, e2_56, e2_57, e2_59, e2_62, e2_65, e2_66, e2_69, e2_70, e2_71, e2_71r, e2_72, e2_75, e2_76, e2_77, e2_80, e2_81, e2_85, e2_86, e2_89, eq_self, kcat_nil, kcat_int, kcat_long, kcat_ref, kNL_int, kNL_ref, kNL_null, Option.toList_some, Option.toList_none, List.nil_append, List.cons_append, Nat.reduceAdd, Nat.reduceLeDiff, Nat.reduceEqDiff, true_and, and_true, true_or, or_true, false_or, or_false, ite_true, ite_false, sg, hB, and_self, n10, not_false_eq_true, tp7, e3, nI_add1]
        refine x_skip hT (by omega) (hP3.mov (i2 + 1)) (fun M4 hP4 => ?_)
        rw [← h3] at hP4
        have g0 : M4 165 s = 1 := by
          have := (hP4.2.2.2.1 s hs10).2
          rw [nu_eq, if_neg (by decide)] at this
          exact this
        simp only [e2_0, e2_1, e2_4, e2_5, e2_8, e2_11, e2_12, e2_15, e2_16, e2_17, e2_20, e2_21, e2_22, e2_25, e2_26, e2_27, e2_30, e2_31, e2_34, e2_35, e2_36, e2_39, e2_40, e2_41, e2_42, e2_43, e2_43r, e2_44, e2_47, e2_48, e2_49, e2_52, e2_53, e2_56, e2_57, e2_59, e2_62, e2_65, e2_66, e2_69, e2_70, e2_71, e2_71r, e2_72, e2_75, e2_76, e2_77, e2_80, e2_81, e2_84, e2_85, e2_86, eq_self, kcat_nil, kcat_int, kcat_long, kcat_ref, kNL_int, kNL_ref, kNL_null, Option.toList_some, Option.toList_none, List.nil_append, List.cons_append, Nat.reduceAdd, Nat.reduceLeDiff, Nat.reduceEqDiff, true_and, and_true, true_or, or_true, false_or, or_false, ite_true, ite_false, tp7]
        refine x_readMass hT b3.2 hs10 hP4 (fun ok M5 hP5 => ?_) (fun nok M5 w1 w2 w3 => ?_) g0
        · rw [← he] at ok hP5
          rw [if_pos ok] at hK
          rw [nu_nu] at hP5
          simp only [e2_0, e2_1, e2_4, e2_5, e2_8, e2_11, e2_12, e2_15, e2_16, e2_17, e2_20, e2_21, e2_22, e2_25, e2_26, e2_27, e2_30, e2_31, e2_34, e2_35, e2_36, e2_39, e2_40, e2_41, e2_42, e2_43, e2_43r, e2_44, e2_47, e2_48, e2_49, e2_52, e2_53, e2_56, e2_57, e2_59, e2_62, e2_65, e2_66, e2_69, e2_70, e2_71, e2_71r, e2_72, e2_75, e2_76, e2_77, e2_80, e2_81, e2_84, e2_85, e2_86, e2_89, eq_self, kcat_nil, kcat_int, kcat_long, kcat_ref, kNL_int, kNL_ref, kNL_null, Option.toList_some, Option.toList_none, List.nil_append, List.cons_append, Nat.reduceAdd, Nat.reduceLeDiff, Nat.reduceEqDiff, true_and, and_true, true_or, or_true, false_or, or_false, ite_true, ite_false, tp7]
          refine hK e s _ (by rw [hs]) hs10 b4.2 hg ?_ M5 hP5
          have hv := vaG_lt tx i3 (e - i3) (fun j hj => (dgG_dig tx (len - i3) i3 (i3 + j) (by omega) (by have : dgG tx (len - i3) i3 = e := he.symm; omega)).2)
          have : 10 ^ (e - i3) ≤ 10 ^ 4 := Nat.pow_le_pow_right (by decide) ok.2.1
          omega
        · rw [← he] at nok
          rw [if_neg nok] at hE
          simp only [e2_0, e2_1, e2_4, e2_5, e2_8, e2_11, e2_12, e2_15, e2_16, e2_17, e2_20, e2_21, e2_22, e2_25, e2_26, e2_27, e2_30, e2_31, e2_34, e2_35, e2_36, e2_39, e2_40, e2_41, e2_42, e2_43, e2_43r, e2_44, e2_47, e2_48, e2_49, e2_52, e2_53, e2_56, e2_57, e2_59, e2_62, e2_65, e2_66, e2_69, e2_70, e2_71, e2_71r, e2_72, e2_75, e2_76, e2_77, e2_80, e2_81, e2_84, e2_85, e2_86, e2_89, eq_self, kcat_nil, kcat_int, kcat_long, kcat_ref, kNL_int, kNL_ref, kNL_null, Option.toList_some, Option.toList_none, List.nil_append, List.cons_append, Nat.reduceAdd, Nat.reduceLeDiff, Nat.reduceEqDiff, true_and, and_true, true_or, or_true, false_or, or_false, ite_true, ite_false, tp7]
          exact hE i3 rfl b3.2 M5 ⟨w1, w2, w3⟩
      · rw [if_neg hB] at hE
        simp only [e2_0, e2_1, e2_4, e2_5, e2_8, e2_11, e2_12, e2_15, e2_16, e2_17, e2_20, e2_21, e2_22, e2_25, e2_26, e2_27, e2_30, e2_31, e2_34, e2_35, e2_36, e2_39, e2_40, e2_41, e2_42, e2_43, e2_43r, e2_44, e2_47, e2_48, e2_49, e2_52, e2_53, e2_56, e2_57, e2_59, e2_62, e2_65, e2_66, e2_69, e2_70, e2_71, e2_71r, e2_72, e2_75, e2_76, e2_77, e2_80, e2_81, e2_85, e2_86, e2_89, eq_self, kcat_nil, kcat_int, kcat_long, kcat_ref, kNL_int, kNL_ref, kNL_null, Option.toList_some, Option.toList_none, List.nil_append, List.cons_append, Nat.reduceAdd, Nat.reduceLeDiff, Nat.reduceEqDiff, true_and, and_true, true_or, or_true, false_or, or_false, ite_true, ite_false, sg, hB, if_false, not_true_eq_false, tp7, e3]
        exact hE i2 rfl b2.2 _ hP3.wx
    · have hA : ¬ prA len tx g i1 := fun z => hg (by rw [hs]; exact z.2.2)
      rw [if_neg hA] at hE
      rw [if_neg hg] at e165
      simp only [e2_0, e2_1, e2_4, e2_5, e2_8, e2_11, e2_12, e2_15, e2_16, e2_17, e2_20, e2_21, e2_22, e2_25, e2_26, e2_27, e2_30, e2_31, e2_34, e2_35, e2_36, e2_39, e2_40, e2_41, e2_42, e2_43, e2_43r, e2_44, e2_47, e2_48, e2_49, e2_52, e2_53, e2_57, e2_59, e2_62, e2_65, e2_66, e2_69, e2_70, e2_71, e2_71r, e2_72, e2_75, e2_76, e2_77, e2_80, e2_81, e2_84, e2_85, e2_86, e2_89, eq_self, kcat_nil, kcat_int, kcat_long, kcat_ref, kNL_int, kNL_ref, kNL_null, Option.toList_some, Option.toList_none, List.nil_append, List.cons_append, Nat.reduceAdd, Nat.reduceLeDiff, Nat.reduceEqDiff, true_and, and_true, true_or, or_true, false_or, or_false, ite_true, ite_false, dg, hd, and_self, n10, not_false_eq_true, dv, ← hs, tp7, tp11, tp14, tp17, kin_nI (show s < 10 by omega) (by decide), clN (show s < 2 ^ 31 by omega), e165, e1, if_false]
      exact hE i1 rfl b1.2 _ hP1.wx
  · have hA : ¬ prA len tx g i1 := fun z => hd ⟨z.1, z.2.1⟩
    rw [if_neg hA] at hE
    simp only [e2_0, e2_1, e2_4, e2_5, e2_8, e2_11, e2_12, e2_15, e2_16, e2_17, e2_20, e2_21, e2_22, e2_25, e2_26, e2_27, e2_30, e2_31, e2_34, e2_35, e2_36, e2_39, e2_40, e2_41, e2_42, e2_43, e2_43r, e2_44, e2_47, e2_48, e2_49, e2_52, e2_53, e2_57, e2_59, e2_62, e2_65, e2_66, e2_69, e2_70, e2_71, e2_71r, e2_72, e2_75, e2_76, e2_77, e2_80, e2_81, e2_84, e2_85, e2_86, e2_89, eq_self, kcat_nil, kcat_int, kcat_long, kcat_ref, kNL_int, kNL_ref, kNL_null, Option.toList_some, Option.toList_none, List.nil_append, List.cons_append, Nat.reduceAdd, Nat.reduceLeDiff, Nat.reduceEqDiff, true_and, and_true, true_or, or_true, false_or, or_false, ite_true, ite_false, dg, hd, if_false, not_true_eq_false, tp7, e1]
    exact hE i1 rfl b1.2 _ hP1.wx
def prs (len : Nat) (tx : Nat → Nat) : Nat → (Nat → Nat) → Nat → Bool × Nat × (Nat → Nat)
  | 0, g, i => (false, i, g)
  | d + 1, g, i =>
    if (prr len tx g i).1 = true then
      if len ≤ skN len tx (prr len tx g i).2.1 then (true, 0, nu g (prr len tx g i).2.2.1 ((prr len tx g i).2.2.2 + 1))
      else if tx (skN len tx (prr len tx g i).2.1) = 44 then prs len tx d (nu g (prr len tx g i).2.2.1 ((prr len tx g i).2.2.2 + 1)) (skN len tx (prr len tx g i).2.1 + 1)
      else (false, skN len tx (prr len tx g i).2.1, g)
    else (false, (prr len tx g i).2.1, g)
def rdN (len : Nat) (tx : Nat → Nat) : Bool × Nat × (Nat → Nat) := if len ≤ skN len tx 0 then (true, 0, fun _ => 0) else prs len tx 11 (fun _ => 0) (skN len tx 0)
theorem x_forget (hT : TxOk len tx) (h : WX len tx M M) (hQ : ∀ M', PX len tx (fun _ => 0) 0 M M' → Q none M') : kE 1 0 [.ref 162, .null] [] M Q := by
  have loop : ∀ d j, j + d = 10 → ∀ M1, WX len tx M M1 → (∀ s, s < j → M1 164 s = 0 ∧ M1 165 s = 0) → kE 1 2 [.ref 162, .int (nI j)] [] M1 Q := by
    intro d
    induction d with
    | zero =>
      intro j hj M1 h hz
      have : j = 10 := by omega
      subst this
      have le : (10 : Int32) ≤ nI 10 := by decide
      rw [e1_2]
      simp only [e1_0, e1_1, e1_3, e1_5, e1_8, e1_9, e1_12, e1_13, e1_14, e1_15, e1_16, e1_19, e1_20, e1_21, e1_22, e1_25, e1_28, e1_29, e1_30, e1_33, eq_self, kcat_nil, kcat_int, kcat_long, kcat_ref, kNL_int, kNL_ref, kNL_null, Option.toList_some, Option.toList_none, List.nil_append, List.cons_append, Nat.reduceAdd, Nat.reduceLeDiff, Nat.reduceEqDiff, true_and, and_true, true_or, or_true, false_or, or_false, ite_true, ite_false, le, tp7]
      refine hQ _ ⟨by rw [mset_ne (by omega)]; exact h.2.1, fun k hk => by rw [mset_off (by decide)]; exact h.2.2 k hk, mset_eq _ _ _ _, fun s hs => by rw [mset_off (by decide), mset_off (by decide), if_pos rfl]; exact hz s hs, fun c hc => by rw [mset_off (by omega)]; exact h.1 c hc⟩
    | succ d ih =>
      intro j hj M1 h hz
      have nle : ¬ (10 : Int32) ≤ nI j := by rw [show (10 : Int32) = nI 10 from rfl]; exact nI_ge (by omega) (by decide)
      rw [e1_2]
      simp only [e1_0, e1_1, e1_3, e1_5, e1_8, e1_9, e1_12, e1_13, e1_14, e1_15, e1_16, e1_19, e1_20, e1_21, e1_22, e1_25, e1_28, e1_29, e1_30, e1_33, eq_self, kcat_nil, kcat_int, kcat_long, kcat_ref, kNL_int, kNL_ref, kNL_null, Option.toList_some, Option.toList_none, List.nil_append, List.cons_append, Nat.reduceAdd, Nat.reduceLeDiff, Nat.reduceEqDiff, true_and, and_true, true_or, or_true, false_or, or_false, ite_true, ite_false, nle, if_false, tp7, tp10, tp11, tp13, tp14, tp16, tp17, kin_nI (show j < 10 by omega) (by decide), clN (show j < 2 ^ 31 by omega), n70, nI_add1]
      refine ih (j + 1) (by omega) _ ⟨fun c hc => by rw [mset_off (by omega), mset_off (by omega)]; exact h.1 c hc, by rw [mset_off (by decide), mset_off (by decide)]; exact h.2.1, fun k hk => by rw [mset_off (by decide), mset_off (by decide)]; exact h.2.2 k hk⟩ (fun s hs => ?_)
      by_cases hsj : s = j
      · rw [hsj, mset_eq, mset_off (by decide), mset_eq]; exact ⟨rfl, rfl⟩
      · rw [mset_off (show (164 : Nat) ≠ 165 by decide), mset_ne (by omega), mset_ne (by omega), mset_off (by decide)]
        exact hz s (by omega)
  simp only [e1_0, e1_1, e1_3, e1_5, e1_8, e1_9, e1_12, e1_13, e1_14, e1_15, e1_16, e1_19, e1_20, e1_21, e1_22, e1_25, e1_28, e1_29, e1_30, e1_33, eq_self, kcat_nil, kcat_int, kcat_long, kcat_ref, kNL_int, kNL_ref, kNL_null, Option.toList_some, Option.toList_none, List.nil_append, List.cons_append, Nat.reduceAdd, Nat.reduceLeDiff, Nat.reduceEqDiff, true_and, and_true, true_or, or_true, false_or, or_false, ite_true, ite_false, tp7]
  exact loop 10 0 rfl M h (fun s hs => by omega)
theorem x_readPairs (hT : TxOk len tx) (h : WX len tx M M)
    (hE : (rdN len tx).1 = false → (rdN len tx).2.1 ≤ 80 → ∀ M', WX len tx M M' → Q (some (.int (nI (rdN len tx).2.1))) M')
    (hK : (rdN len tx).1 = true → (∀ s, (rdN len tx).2.2 s ≤ 10000) → ∀ M', WX len tx M M' → (∀ s, s < 10 → M' 164 s = nI ((rdN len tx).2.2 s - 1)) → Q (some (.int (-1))) M') : kE 0 0 [.ref 162, .null, .null] [] M Q := by
  have n10 : ¬ (1 : Int32) = 0 := by decide
  have hl := hT.1
  have nm : ∀ p, p ≤ 80 → ¬ nI p = -1 := fun p hp e => by
    have e := congrArg Int32.toInt e
    rw [nI_toInt (by omega)] at e
    have e2 : (-1 : Int32).toInt = -1 := rfl
    omega
  have loop : ∀ d j g i, j + d = 11 → i ≤ len → (∀ s, g s ≤ 10000) → ∀ v2, kNL v2 = true → ∀ M1, PX len tx g i M M1 → ((prs len tx d g i).1 = false → (prs len tx d g i).2.1 ≤ 80 → ∀ M', WX len tx M M' → Q (some (.int (nI (prs len tx d g i).2.1))) M') → ((prs len tx d g i).1 = true → (∀ s, (prs len tx d g i).2.2 s ≤ 10000) → ∀ M', WX len tx M M' → (∀ s, s < 10 → M' 164 s = nI ((prs len tx d g i).2.2 s - 1)) → Q (some (.int (-1))) M') → kE 0 23 [.ref 162, .int (nI j), v2] [] M1 Q := by
    intro d
    induction d with
    | zero =>
      intro j g i hj hi hg v2 hv2 M1 h hE hK
      have : j = 11 := by omega
      subst this
      have lt : (10 : Int32) < nI 11 := by decide
      rw [e0_23]
      simp only [e0_0, e0_1, e0_4, e0_5, e0_8, e0_9, e0_12, e0_13, e0_16, e0_19, e0_20, e0_21, e0_22, e0_24, e0_26, e0_29, e0_30, e0_33, e0_34, e0_35, e0_36, e0_39, e0_40, e0_41, e0_42, e0_45, e0_46, e0_49, e0_50, e0_53, e0_56, e0_57, e0_58, e0_59, e0_61, e0_64, e0_67, e0_68, e0_71, e0_72, e0_73, e0_73r, e0_74, e0_77, e0_78, e0_79, e0_82, e0_85, e0_88, e0_89, e0_92, eq_self, kcat_nil, kcat_int, kcat_long, kcat_ref, kNL_int, kNL_ref, kNL_null, Option.toList_some, Option.toList_none, List.nil_append, List.cons_append, Nat.reduceAdd, Nat.reduceLeDiff, Nat.reduceEqDiff, true_and, and_true, true_or, or_true, false_or, or_false, ite_true, ite_false, lt, tp7, h.2.2.1]
      exact hE rfl (by show i ≤ 80; omega) M1 h.wx
    | succ d ih =>
      intro j g i hj hi hg v2 hv2 M1 h hE hK
      have nlt : ¬ (10 : Int32) < nI j := by
        rw [show (10 : Int32) = nI 10 from rfl, nI_lt_iff (by decide) (by omega)]
        omega
      rw [prs] at hE hK
      rw [e0_23]
      simp only [e0_0, e0_1, e0_4, e0_5, e0_8, e0_9, e0_12, e0_13, e0_16, e0_19, e0_20, e0_21, e0_22, e0_24, e0_26, e0_29, e0_30, e0_34, e0_35, e0_36, e0_39, e0_40, e0_41, e0_42, e0_45, e0_46, e0_49, e0_50, e0_53, e0_56, e0_57, e0_58, e0_59, e0_61, e0_64, e0_67, e0_68, e0_71, e0_72, e0_73, e0_73r, e0_74, e0_77, e0_78, e0_79, e0_82, e0_85, e0_88, e0_89, e0_92, eq_self, kcat_nil, kcat_int, kcat_long, kcat_ref, kNL_int, kNL_ref, kNL_null, Option.toList_some, Option.toList_none, List.nil_append, List.cons_append, Nat.reduceAdd, Nat.reduceLeDiff, Nat.reduceEqDiff, true_and, and_true, true_or, or_true, false_or, or_false, ite_true, ite_false, tp7, nlt, if_false]
      refine x_readPair hT hi h (fun p hp hpl M2 hW => ?_) (fun e s v hp hs hel hgs hv M2 hP2 => ?_)
      · rw [hp] at hE
        simp only [e0_0, e0_1, e0_4, e0_5, e0_8, e0_9, e0_12, e0_13, e0_16, e0_19, e0_20, e0_21, e0_22, e0_24, e0_26, e0_29, e0_30, e0_33, e0_34, e0_35, e0_36, e0_39, e0_40, e0_41, e0_42, e0_45, e0_46, e0_49, e0_50, e0_53, e0_56, e0_57, e0_58, e0_59, e0_61, e0_64, e0_67, e0_68, e0_71, e0_72, e0_73, e0_73r, e0_74, e0_77, e0_78, e0_79, e0_82, e0_85, e0_88, e0_89, e0_92, eq_self, kcat_nil, kcat_int, kcat_long, kcat_ref, kNL_int, kNL_ref, kNL_null, Option.toList_some, Option.toList_none, List.nil_append, List.cons_append, Nat.reduceAdd, Nat.reduceLeDiff, Nat.reduceEqDiff, true_and, and_true, true_or, or_true, false_or, or_false, ite_true, ite_false, nm p (by omega), if_false]
        rw [if_neg (show ¬ ((false, p, 0, 0) : Bool × Nat × Nat × Nat).1 = true from Bool.false_ne_true)] at hE
        exact hE rfl (by show p ≤ 80; omega) M2 hW
      · rw [hp] at hE hK
        rw [if_pos rfl] at hE hK
        have bk := skN_le (tx := tx) hel
        obtain ⟨k, hk⟩ : ∃ k, k = skN len tx e := ⟨_, rfl⟩
        dsimp only at hE hK
        rw [← hk] at bk hE hK
        have hg' : ∀ r, nu g s (v + 1) r ≤ 10000 := fun r => nu_le' (fun _ => by omega) (fun _ => hg r)
        simp only [e0_0, e0_1, e0_4, e0_5, e0_8, e0_9, e0_12, e0_13, e0_16, e0_19, e0_20, e0_21, e0_22, e0_24, e0_26, e0_29, e0_30, e0_33, e0_34, e0_35, e0_36, e0_39, e0_40, e0_41, e0_42, e0_46, e0_49, e0_50, e0_53, e0_56, e0_57, e0_58, e0_59, e0_61, e0_64, e0_67, e0_68, e0_71, e0_72, e0_73, e0_73r, e0_74, e0_77, e0_78, e0_79, e0_82, e0_85, e0_88, e0_89, e0_92, eq_self, kcat_nil, kcat_int, kcat_long, kcat_ref, kNL_int, kNL_ref, kNL_null, Option.toList_some, Option.toList_none, List.nil_append, List.cons_append, Nat.reduceAdd, Nat.reduceLeDiff, Nat.reduceEqDiff, true_and, and_true, true_or, or_true, false_or, or_false, ite_true, ite_false, tp7]
        refine x_skip hT hel hP2 (fun M3 hP3 => ?_)
        rw [← hk] at hP3
        have e3 := hP3.1
        have e4 := hP3.2.2.1
        have zl : (nI k < nI len) ↔ k < len := nI_lt_iff (by omega) (by omega)
        have sg := fun Q' => x_isSign (Q := Q') (c := 44) hT bk.2 (by decide) hP3
        rw [show nI 44 = (44 : Int32) from rfl] at sg
        by_cases hkl : k < len
        · have nle : ¬ len ≤ k := by omega
          rw [if_neg nle] at hE hK
          by_cases h44 : tx k = 44
          · rw [if_pos h44] at hE hK
            simp only [e0_0, e0_1, e0_4, e0_5, e0_8, e0_9, e0_12, e0_13, e0_16, e0_19, e0_20, e0_21, e0_22, e0_24, e0_26, e0_29, e0_30, e0_33, e0_34, e0_35, e0_36, e0_39, e0_40, e0_41, e0_42, e0_45, e0_46, e0_49, e0_50, e0_53, e0_56, e0_57, e0_58, e0_59, e0_61, e0_64, e0_67, e0_68, e0_71, e0_72, e0_73, e0_73r, e0_74, e0_77, e0_78, e0_79, e0_82, e0_85, e0_88, e0_89, e0_92, eq_self, kcat_nil, kcat_int, kcat_long, kcat_ref, kNL_int, kNL_ref, kNL_null, Option.toList_some, Option.toList_none, List.nil_append, List.cons_append, Nat.reduceAdd, Nat.reduceLeDiff, Nat.reduceEqDiff, true_and, and_true, true_or, or_true, false_or, or_false, ite_true, ite_false, tp7, e3, e4, zl, hkl, sg, h44, and_self, n10, not_false_eq_true, nI_add1]
            exact ih (j + 1) _ (k + 1) (by omega) (by omega) hg' _ rfl _ (hP3.mov (k + 1)) hE hK
          · rw [if_neg h44] at hE
            simp only [e0_0, e0_1, e0_4, e0_5, e0_8, e0_9, e0_12, e0_13, e0_16, e0_19, e0_20, e0_21, e0_22, e0_24, e0_26, e0_29, e0_30, e0_33, e0_34, e0_35, e0_36, e0_39, e0_40, e0_41, e0_42, e0_45, e0_46, e0_49, e0_50, e0_53, e0_56, e0_57, e0_58, e0_59, e0_61, e0_64, e0_67, e0_68, e0_71, e0_72, e0_73, e0_73r, e0_74, e0_77, e0_78, e0_79, e0_82, e0_85, e0_88, e0_89, e0_92, eq_self, kcat_nil, kcat_int, kcat_long, kcat_ref, kNL_int, kNL_ref, kNL_null, Option.toList_some, Option.toList_none, List.nil_append, List.cons_append, Nat.reduceAdd, Nat.reduceLeDiff, Nat.reduceEqDiff, true_and, and_true, true_or, or_true, false_or, or_false, ite_true, ite_false, tp7, e3, e4, zl, hkl, sg, h44, if_false, not_true_eq_false, and_false]
            exact hE rfl (by show k ≤ 80; omega) _ hP3.wx
        · rw [if_pos (show len ≤ k by omega)] at hK
          simp only [e0_0, e0_1, e0_4, e0_5, e0_8, e0_9, e0_12, e0_13, e0_16, e0_19, e0_20, e0_21, e0_22, e0_24, e0_26, e0_29, e0_30, e0_33, e0_34, e0_35, e0_36, e0_39, e0_40, e0_41, e0_42, e0_45, e0_46, e0_49, e0_50, e0_53, e0_56, e0_57, e0_58, e0_59, e0_61, e0_64, e0_67, e0_68, e0_71, e0_72, e0_73, e0_73r, e0_74, e0_77, e0_78, e0_79, e0_82, e0_85, e0_88, e0_89, e0_92, eq_self, kcat_nil, kcat_int, kcat_long, kcat_ref, kNL_int, kNL_ref, kNL_null, Option.toList_some, Option.toList_none, List.nil_append, List.cons_append, Nat.reduceAdd, Nat.reduceLeDiff, Nat.reduceEqDiff, true_and, and_true, true_or, or_true, false_or, or_false, ite_true, ite_false, tp7, e3, e4, zl, hkl, if_false]
          exact hK rfl hg' _ hP3.wx (fun s hs => (hP3.2.2.2.1 s hs).1)
  unfold rdN at hE hK
  obtain ⟨k, hk⟩ : ∃ k, k = skN len tx 0 := ⟨_, rfl⟩
  have bk := skN_le (tx := tx) (Nat.zero_le len)
  rw [← hk] at hE hK bk
  simp only [e0_0, e0_1, e0_5, e0_8, e0_9, e0_12, e0_13, e0_16, e0_19, e0_20, e0_21, e0_22, e0_23, e0_24, e0_26, e0_29, e0_30, e0_33, e0_34, e0_35, e0_36, e0_39, e0_40, e0_41, e0_42, e0_45, e0_46, e0_49, e0_50, e0_53, e0_56, e0_57, e0_58, e0_59, e0_61, e0_64, e0_67, e0_68, e0_71, e0_72, e0_73, e0_73r, e0_74, e0_77, e0_78, e0_79, e0_82, e0_85, e0_88, e0_89, e0_92, eq_self, kcat_nil, kcat_int, kcat_long, kcat_ref, kNL_int, kNL_ref, kNL_null, Option.toList_some, Option.toList_none, List.nil_append, List.cons_append, Nat.reduceAdd, Nat.reduceLeDiff, Nat.reduceEqDiff, true_and, and_true, true_or, or_true, false_or, or_false, ite_true, ite_false, tp7]
  refine x_forget hT h (fun M1 hP1 => ?_)
  simp only [e0_0, e0_1, e0_4, e0_5, e0_9, e0_12, e0_13, e0_16, e0_19, e0_20, e0_21, e0_22, e0_23, e0_24, e0_26, e0_29, e0_30, e0_33, e0_34, e0_35, e0_36, e0_39, e0_40, e0_41, e0_42, e0_45, e0_46, e0_49, e0_50, e0_53, e0_56, e0_57, e0_58, e0_59, e0_61, e0_64, e0_67, e0_68, e0_71, e0_72, e0_73, e0_73r, e0_74, e0_77, e0_78, e0_79, e0_82, e0_85, e0_88, e0_89, e0_92, eq_self, kcat_nil, kcat_int, kcat_long, kcat_ref, kNL_int, kNL_ref, kNL_null, Option.toList_some, Option.toList_none, List.nil_append, List.cons_append, Nat.reduceAdd, Nat.reduceLeDiff, Nat.reduceEqDiff, true_and, and_true, true_or, or_true, false_or, or_false, ite_true, ite_false, tp7]
  refine x_skip hT (Nat.zero_le _) hP1 (fun M2 hP2 => ?_)
  rw [← hk] at hP2
  have e3 := hP2.1
  have e4 := hP2.2.2.1
  have zl : (nI k < nI len) ↔ k < len := nI_lt_iff (by omega) (by omega)
  by_cases hkl : k < len
  · rw [if_neg (show ¬ len ≤ k by omega)] at hE hK
    simp only [e0_0, e0_1, e0_4, e0_5, e0_8, e0_9, e0_12, e0_13, e0_16, e0_19, e0_20, e0_21, e0_22, e0_24, e0_26, e0_29, e0_30, e0_33, e0_34, e0_35, e0_36, e0_39, e0_40, e0_41, e0_42, e0_45, e0_46, e0_49, e0_50, e0_53, e0_56, e0_57, e0_58, e0_59, e0_61, e0_64, e0_67, e0_68, e0_71, e0_72, e0_73, e0_73r, e0_74, e0_77, e0_78, e0_79, e0_82, e0_85, e0_88, e0_89, e0_92, eq_self, kcat_nil, kcat_int, kcat_long, kcat_ref, kNL_int, kNL_ref, kNL_null, Option.toList_some, Option.toList_none, List.nil_append, List.cons_append, Nat.reduceAdd, Nat.reduceLeDiff, Nat.reduceEqDiff, true_and, and_true, true_or, or_true, false_or, or_false, ite_true, ite_false, tp7, e3, e4, zl, hkl]
    exact loop 11 0 _ k rfl bk.2 (fun _ => Nat.zero_le _) .null rfl M2 hP2 hE hK
  · rw [if_pos (show len ≤ k by omega)] at hK
    simp only [e0_0, e0_1, e0_4, e0_5, e0_8, e0_9, e0_12, e0_13, e0_16, e0_19, e0_20, e0_21, e0_22, e0_24, e0_26, e0_29, e0_30, e0_33, e0_34, e0_35, e0_36, e0_39, e0_40, e0_41, e0_42, e0_45, e0_46, e0_49, e0_50, e0_53, e0_56, e0_57, e0_58, e0_59, e0_61, e0_64, e0_67, e0_68, e0_71, e0_72, e0_73, e0_73r, e0_74, e0_77, e0_78, e0_79, e0_82, e0_85, e0_88, e0_89, e0_92, eq_self, kcat_nil, kcat_int, kcat_long, kcat_ref, kNL_int, kNL_ref, kNL_null, Option.toList_some, Option.toList_none, List.nil_append, List.cons_append, Nat.reduceAdd, Nat.reduceLeDiff, Nat.reduceEqDiff, true_and, and_true, true_or, or_true, false_or, or_false, ite_true, ite_false, tp7, e3, e4, zl, hkl, if_false]
    exact hK rfl (fun _ => Nat.zero_le _) _ hP2.wx (fun s hs => (hP2.2.2.2.1 s hs).1)
end PX
