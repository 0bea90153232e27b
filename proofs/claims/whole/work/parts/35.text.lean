/-! the text: the class's reading -/
def skG (tx : Nat → Nat) : Nat → Nat → Nat
  | 0, i => i
  | d + 1, i => if tx i = 32 then skG tx d (i + 1) else i
def skN (len : Nat) (tx : Nat → Nat) (i : Nat) : Nat := skG tx (len - i) i
def dgG (tx : Nat → Nat) : Nat → Nat → Nat
  | 0, i => i
  | d + 1, i => if 48 ≤ tx i ∧ tx i ≤ 57 then dgG tx d (i + 1) else i
def dgN (len : Nat) (tx : Nat → Nat) (i : Nat) : Nat := dgG tx (len - i) i
def vaG (tx : Nat → Nat) (i : Nat) : Nat → Nat
  | 0 => 0
  | n + 1 => vaG tx i n * 10 + (tx (i + n) - 48)
theorem skG_le (tx : Nat → Nat) : ∀ d i, i ≤ skG tx d i ∧ skG tx d i ≤ i + d := by
  intro d
  induction d with
  | zero => intro i; exact ⟨Nat.le_refl _, Nat.le_refl _⟩
  | succ d ih =>
    intro i
    have := ih (i + 1)
    rw [skG]
    split <;> omega
theorem dgG_le (tx : Nat → Nat) : ∀ d i, i ≤ dgG tx d i ∧ dgG tx d i ≤ i + d := by
  intro d
  induction d with
  | zero => intro i; exact ⟨Nat.le_refl _, Nat.le_refl _⟩
  | succ d ih =>
    intro i
    have := ih (i + 1)
    rw [dgG]
    split <;> omega
theorem skN_le {len : Nat} {tx : Nat → Nat} {i : Nat} (h : i ≤ len) : i ≤ skN len tx i ∧ skN len tx i ≤ len := by
  have := skG_le tx (len - i) i
  unfold skN
  omega
theorem dgN_le {len : Nat} {tx : Nat → Nat} {i : Nat} (h : i ≤ len) : i ≤ dgN len tx i ∧ dgN len tx i ≤ len := by
  have := dgG_le tx (len - i) i
  unfold dgN
  omega
theorem dgG_dig (tx : Nat → Nat) : ∀ d i j, i ≤ j → j < dgG tx d i → 48 ≤ tx j ∧ tx j ≤ 57 := by
  intro d
  induction d with
  | zero => intro i j h1 h2; rw [dgG] at h2; omega
  | succ d ih =>
    intro i j h1 h2
    rw [dgG] at h2
    by_cases h : 48 ≤ tx i ∧ tx i ≤ 57
    · rw [if_pos h] at h2
      by_cases hij : j = i
      · rw [hij]; exact h
      · exact ih (i + 1) j (by omega) h2
    · rw [if_neg h] at h2; omega
abbrev okM (tx : Nat → Nat) (i e : Nat) : Prop := 1 ≤ e - i ∧ e - i ≤ 4 ∧ (tx i ≠ 48 ∨ e - i = 1)
def PX (len : Nat) (tx g : Nat → Nat) (i : Nat) (M0 M : KMem) : Prop := M 162 3 = nI len ∧ (∀ j, j < len → M 163 j = nI (tx j)) ∧ M 162 4 = nI i ∧ (∀ s, s < 10 → M 164 s = nI (g s - 1) ∧ M 165 s = if g s = 0 then 0 else 1) ∧ (∀ c, c < 162 ∨ 166 ≤ c → M c = M0 c)
def TxOk (len : Nat) (tx : Nat → Nat) : Prop := len ≤ 80 ∧ ∀ j, j < len → tx j ≤ 255
section PX
variable {len : Nat} {tx g : Nat → Nat} {i : Nat} {M0 M : KMem} {Q : Option Value → KMem → Prop}
theorem PX.mov (h : PX len tx g i M0 M) (j : Nat) : PX len tx g j M0 (mset M 162 4 (nI j)) := by
  obtain ⟨h1, h2, h3, h4, h5⟩ := h
  exact ⟨by rw [mset_ne (by omega)]; exact h1, fun k hk => by rw [mset_off (by decide)]; exact h2 k hk, mset_eq _ _ _ _, fun s hs => by rw [mset_off (by decide), mset_off (by decide)]; exact h4 s hs, fun c hc => by rw [mset_off (by omega)]; exact h5 c hc⟩
theorem x_isSign {c : Nat} (hT : TxOk len tx) (hi : i ≤ len) (hc : c < 256) (h : PX len tx g i M0 M) : kE 5 0 [.ref 162, .int (nI c)] [] M Q = if i < len ∧ tx i = c then Q (some (.int 1)) M else Q (some (.int 0)) M := by
  have hl := hT.1
  have e3 := h.1
  have e4 := h.2.2.1
  have zl : (nI len ≤ nI i) ↔ len ≤ i := nI_le_iff (by omega) (by omega)
  by_cases hlt : i < len
  · have es := h.2.1 i hlt
    have hb := hT.2 i hlt
    have zc : (nI (tx i) = nI c) ↔ tx i = c := nI_eq_iff (by omega) (by omega)
    have nl : ¬ len ≤ i := by omega
    simp only [e5_0, e5_1, e5_4, e5_5, e5_8, e5_11, e5_12, e5_15, e5_16, e5_19, e5_20, e5_21, e5_24, e5_25, e5_28, e5_29, eq_self, kcat_nil, kcat_int, kcat_long, kcat_ref, kNL_int, kNL_ref, kNL_null, Option.toList_some, Option.toList_none, List.nil_append, List.cons_append, Nat.reduceAdd, Nat.reduceLeDiff, Nat.reduceEqDiff, true_and, and_true, true_or, or_true, false_or, or_false, ite_true, ite_false, tp7, tp9, tp12, tp15, e3, e4, zl, nl, if_false, kin_nI (show i < 80 by omega) (by decide), clN (show i < 2 ^ 31 by omega), es, zc, hlt]
    by_cases h1 : tx i = c
    · rw [if_pos h1, if_neg (fun z => z h1)]
    · rw [if_neg h1, if_pos h1]
  · have nl : len ≤ i := by omega
    have n2 : ¬ (i < len ∧ tx i = c) := fun z => hlt z.1
    rw [if_neg n2]
    simp only [e5_0, e5_1, e5_4, e5_5, e5_8, e5_11, e5_12, e5_15, e5_16, e5_19, e5_20, e5_21, e5_24, e5_25, e5_28, e5_29, eq_self, kcat_nil, kcat_int, kcat_long, kcat_ref, kNL_int, kNL_ref, kNL_null, Option.toList_some, Option.toList_none, List.nil_append, List.cons_append, Nat.reduceAdd, Nat.reduceLeDiff, Nat.reduceEqDiff, true_and, and_true, true_or, or_true, false_or, or_false, ite_true, ite_false, tp7, tp9, tp12, tp15, e3, e4, zl, nl, if_true]
theorem x_isDigit (hT : TxOk len tx) (hi : i ≤ len) (h : PX len tx g i M0 M) : kE 6 0 [.ref 162] [] M Q = if i < len ∧ 48 ≤ tx i ∧ tx i ≤ 57 then Q (some (.int 1)) M else Q (some (.int 0)) M := by
  have hl := hT.1
  have e3 := h.1
  have e4 := h.2.2.1
  have n10 : ¬ (1 : Int32) = 0 := by decide
  have zl : (nI len ≤ nI i) ↔ len ≤ i := nI_le_iff (by omega) (by omega)
  by_cases hlt : i < len
  · have es := h.2.1 i hlt
    have hb := hT.2 i hlt
    have z1 : ((48 : Int32) ≤ nI (tx i)) ↔ 48 ≤ tx i := nI_le_iff (a := 48) (by decide) (by omega)
    have z2 : (nI (tx i) ≤ 57) ↔ tx i ≤ 57 := nI_le_iff (b := 57) (by omega) (by decide)
    have nl : ¬ len ≤ i := by omega
    simp only [e6_0, e6_1, e6_4, e6_5, e6_8, e6_11, e6_12, e6_15, e6_16, e6_19, e6_20, e6_22, e6_24, e6_27, e6_30, e6_31, e6_34, e6_35, eq_self, kcat_nil, kcat_int, kcat_long, kcat_ref, kNL_int, kNL_ref, kNL_null, Option.toList_some, Option.toList_none, List.nil_append, List.cons_append, Nat.reduceAdd, Nat.reduceLeDiff, Nat.reduceEqDiff, true_and, and_true, true_or, or_true, false_or, or_false, ite_true, ite_false, tp7, tp9, tp12, tp15, e3, e4, zl, nl, if_false, kin_nI (show i < 80 by omega) (by decide), clN (show i < 2 ^ 31 by omega), es, hlt, x_isIn, z1, z2, n10]
  · have nl : len ≤ i := by omega
    have n2 : ¬ (i < len ∧ 48 ≤ tx i ∧ tx i ≤ 57) := fun z => hlt z.1
    rw [if_neg n2]
    simp only [e6_0, e6_1, e6_4, e6_5, e6_8, e6_11, e6_12, e6_15, e6_16, e6_19, e6_20, e6_22, e6_24, e6_27, e6_30, e6_31, e6_34, e6_35, eq_self, kcat_nil, kcat_int, kcat_long, kcat_ref, kNL_int, kNL_ref, kNL_null, Option.toList_some, Option.toList_none, List.nil_append, List.cons_append, Nat.reduceAdd, Nat.reduceLeDiff, Nat.reduceEqDiff, true_and, and_true, true_or, or_true, false_or, or_false, ite_true, ite_false, tp7, tp9, tp12, tp15, e3, e4, zl, nl, if_true]
theorem x_digit (hT : TxOk len tx) (hi : i < len) (hd : 48 ≤ tx i) (h : PX len tx g i M0 M) : kE 7 0 [.ref 162] [] M Q = Q (some (.int (nI (tx i - 48)))) M := by
  have hl := hT.1
  have e4 := h.2.2.1
  have es := h.2.1 i hi
  have s1 : nI (tx i) - 48 = nI (tx i - 48) := by rw [show (48 : Int32) = nI 48 from rfl, pk_sub hd]
  simp only [e7_0, e7_1, e7_4, e7_5, e7_8, e7_9, e7_11, e7_12, eq_self, kcat_nil, kcat_int, kcat_long, kcat_ref, kNL_int, kNL_ref, kNL_null, Option.toList_some, Option.toList_none, List.nil_append, List.cons_append, Nat.reduceAdd, Nat.reduceLeDiff, Nat.reduceEqDiff, true_and, and_true, true_or, or_true, false_or, or_false, ite_true, ite_false, tp7, tp9, tp12, tp15, e4, kin_nI (show i < 80 by omega) (by decide), clN (show i < 2 ^ 31 by omega), es, s1]
theorem x_skip (hT : TxOk len tx) (hi : i ≤ len) (h : PX len tx g i M0 M) (hQ : ∀ M', PX len tx g (skN len tx i) M0 M' → Q none M') : kE 4 0 [.ref 162] [] M Q := by
  have n10 : ¬ (1 : Int32) = 0 := by decide
  have hl := hT.1
  have loop : ∀ d i, i + d = len → ∀ M, PX len tx g i M0 M → (∀ M', PX len tx g (skG tx d i) M0 M' → Q none M') → kE 4 0 [.ref 162] [] M Q := by
    intro d
    induction d with
    | zero =>
      intro i hd M h hQ
      have e3 := h.1
      have e4 := h.2.2.1
      have zl : (nI len ≤ nI i) ↔ len ≤ i := nI_le_iff (by omega) (by omega)
      have nl : len ≤ i := by omega
      rw [e4_0]
      simp only [e4_1, e4_4, e4_5, e4_8, e4_11, e4_12, e4_14, e4_17, e4_20, e4_21, e4_21r, e4_22, e4_25, e4_26, e4_27, e4_30, e4_33, eq_self, kcat_nil, kcat_int, kcat_long, kcat_ref, kNL_int, kNL_ref, kNL_null, Option.toList_some, Option.toList_none, List.nil_append, List.cons_append, Nat.reduceAdd, Nat.reduceLeDiff, Nat.reduceEqDiff, true_and, and_true, true_or, or_true, false_or, or_false, ite_true, ite_false, tp7, e3, e4, zl, nl, if_true]
      exact hQ M h
    | succ d ih =>
      intro i hd M h hQ
      have e3 := h.1
      have e4 := h.2.2.1
      have zl : (nI len ≤ nI i) ↔ len ≤ i := nI_le_iff (by omega) (by omega)
      have nl : ¬ len ≤ i := by omega
      have hlt : i < len := by omega
      have sg := fun Q' => x_isSign (Q := Q') (c := 32) hT (by omega) (by decide) h
      rw [show nI 32 = (32 : Int32) from rfl] at sg
      rw [e4_0]
      simp only [e4_1, e4_4, e4_5, e4_8, e4_11, e4_12, e4_14, e4_17, e4_20, e4_21, e4_21r, e4_22, e4_25, e4_26, e4_27, e4_30, e4_33, eq_self, kcat_nil, kcat_int, kcat_long, kcat_ref, kNL_int, kNL_ref, kNL_null, Option.toList_some, Option.toList_none, List.nil_append, List.cons_append, Nat.reduceAdd, Nat.reduceLeDiff, Nat.reduceEqDiff, true_and, and_true, true_or, or_true, false_or, or_false, ite_true, ite_false, tp7, e3, e4, zl, nl, if_false, sg, n10, hlt, nI_add1]
      rw [skG] at hQ
      by_cases h1 : tx i = 32
      · rw [if_pos h1]
        rw [if_pos h1] at hQ
        exact ih (i + 1) (by omega) _ (h.mov (i + 1)) hQ
      · rw [if_neg h1]
        rw [if_neg h1] at hQ
        exact hQ M h
  exact loop (len - i) i (by omega) M h hQ
theorem x_readMass {s : Nat} (hT : TxOk len tx) (hi : i ≤ len) (hs : s < 10) (h : PX len tx g i M0 M)
    (hK : okM tx i (dgN len tx i) → ∀ M', PX len tx (nu g s (vaG tx i (dgN len tx i - i) + 1)) (dgN len tx i) M0 M' → Q (some (.int (-1))) M')
    (hE : ¬ okM tx i (dgN len tx i) → ∀ M', (∀ c, c < 162 ∨ 166 ≤ c → M' c = M0 c) → M' 162 3 = nI len → (∀ j, j < len → M' 163 j = nI (tx j)) → Q (some (.int (nI i))) M') (g0 : M 165 s = 1) : kE 3 0 [.ref 162, .int (nI s), .null, .null, .null, .null] [] M Q := by
  have n10 : ¬ (1 : Int32) = 0 := by decide
  have hl := hT.1
  obtain ⟨e, he⟩ : ∃ e, e = dgN len tx i := ⟨_, rfl⟩
  rw [← he] at hK hE
  have hle := dgN_le (tx := tx) hi
  rw [← he] at hle
  have fin : ∀ M, PX len tx g e M0 M → M 165 s = 1 → kE 3 48 [.ref 162, .int (nI s), .int (nI i), .int (nI (vaG tx i (e - i))), .null, .null] [] M Q := by
    intro M h g0
    have e4 := h.2.2.1
    have sb : nI e - nI i = nI (e - i) := pk_sub hle.1
    have zd : (nI (e - i) = 0) ↔ e - i = 0 := nI_eq_iff (b := 0) (by omega) (by decide)
    have z1 : (nI (e - i) ≤ 1) ↔ e - i ≤ 1 := nI_le_iff (b := 1) (by omega) (by decide)
    have z4 : (nI (e - i) ≤ 4) ↔ e - i ≤ 4 := nI_le_iff (b := 4) (by omega) (by decide)
    rw [e3_48]
    by_cases h0 : e - i = 0
    · have hei : e = i := by omega
      simp only [e3_0, e3_1, e3_4, e3_5, e3_6, e3_7, e3_8, e3_11, e3_12, e3_15, e3_18, e3_19, e3_22, e3_25, e3_26, e3_28, e3_29, e3_30, e3_33, e3_34, e3_35, e3_36, e3_36r, e3_37, e3_40, e3_41, e3_42, e3_45, e3_49, e3_52, e3_53, e3_54, e3_56, e3_58, e3_61, e3_62, e3_65, e3_66, e3_68, e3_69, e3_72, e3_73, e3_76, e3_77, e3_78, e3_80, e3_83, e3_84, e3_87, e3_90, e3_92, e3_95, e3_97, e3_98, e3_101, e3_102, e3_103, e3_104, e3_107, e3_108, e3_109, e3_110, e3_111, eq_self, kcat_nil, kcat_int, kcat_long, kcat_ref, kNL_int, kNL_ref, kNL_null, Option.toList_some, Option.toList_none, List.nil_append, List.cons_append, Nat.reduceAdd, Nat.reduceLeDiff, Nat.reduceEqDiff, true_and, and_true, true_or, or_true, false_or, or_false, ite_true, ite_false, tp7, e4, sb, zd, h0, not_true_eq_false, if_false]
      rw [hei]
      exact hE (fun z => by have := z.1; omega) M h.2.2.2.2 h.1 h.2.1
    · have hlt : i < len := by omega
      have es := h.2.1 i hlt
      have hb := hT.2 i hlt
      have z48 : (nI (tx i) = 48) ↔ tx i = 48 := nI_eq_iff (b := 48) (by omega) (by decide)
      have mk : okM tx i e → kE 3 103 [.ref 162, .int (nI s), .int (nI i), .int (nI (vaG tx i (e - i))), .int (nI (e - i)), .int 0] [] M Q := by
        intro ok
        rw [e3_103]
        simp only [e3_0, e3_1, e3_4, e3_5, e3_6, e3_7, e3_8, e3_11, e3_12, e3_15, e3_18, e3_19, e3_22, e3_25, e3_26, e3_28, e3_29, e3_30, e3_33, e3_34, e3_35, e3_36, e3_36r, e3_37, e3_40, e3_41, e3_42, e3_45, e3_48, e3_49, e3_52, e3_53, e3_54, e3_56, e3_58, e3_61, e3_62, e3_65, e3_66, e3_68, e3_69, e3_72, e3_73, e3_76, e3_77, e3_78, e3_80, e3_83, e3_84, e3_87, e3_88, e3_90, e3_92, e3_95, e3_97, e3_98, e3_101, e3_102, e3_104, e3_107, e3_108, e3_109, e3_110, e3_111, eq_self, kcat_nil, kcat_int, kcat_long, kcat_ref, kNL_int, kNL_ref, kNL_null, Option.toList_some, Option.toList_none, List.nil_append, List.cons_append, Nat.reduceAdd, Nat.reduceLeDiff, Nat.reduceEqDiff, true_and, and_true, true_or, or_true, false_or, or_false, ite_true, ite_false, tp7, tp10, tp13, tp16, kin_nI (show s < 10 by omega) (by decide), clN (show s < 2 ^ 31 by omega)]
        refine hK ok _ ?_
        obtain ⟨h1, h2, h3, h4, h5⟩ := h
        refine ⟨by rw [mset_off (by decide)]; exact h1, fun k hk => by rw [mset_off (by decide)]; exact h2 k hk, by rw [mset_off (by decide)]; exact h3, fun r hr => ?_, fun c hc => by rw [mset_off (by omega)]; exact h5 c hc⟩
        rw [mset_off (show (165 : Nat) ≠ 164 by decide)]
        by_cases hrs : r = s
        · rw [hrs, nu_eq, mset_eq, g0, if_neg (by omega)]
          exact ⟨rfl, rfl⟩
        · rw [nu_ne hrs, mset_ne (by omega)]
          exact h4 r hr
      simp only [e3_0, e3_1, e3_4, e3_5, e3_6, e3_7, e3_8, e3_11, e3_12, e3_15, e3_18, e3_19, e3_22, e3_25, e3_26, e3_28, e3_29, e3_30, e3_33, e3_34, e3_35, e3_36, e3_36r, e3_37, e3_40, e3_41, e3_42, e3_45, e3_49, e3_52, e3_53, e3_54, e3_56, e3_58, e3_61, e3_62, e3_65, e3_66, e3_68, e3_69, e3_72, e3_73, e3_76, e3_77, e3_78, e3_80, e3_83, e3_84, e3_87, e3_90, e3_92, e3_95, e3_97, e3_98, e3_101, e3_102, e3_104, e3_107, e3_108, e3_109, e3_110, e3_111, eq_self, kcat_nil, kcat_int, kcat_long, kcat_ref, kNL_int, kNL_ref, kNL_null, Option.toList_some, Option.toList_none, List.nil_append, List.cons_append, Nat.reduceAdd, Nat.reduceLeDiff, Nat.reduceEqDiff, true_and, and_true, true_or, or_true, false_or, or_false, ite_true, ite_false, tp7, tp9, tp12, tp15, e4, sb, zd, h0, not_false_eq_true, z1, kin_nI (show i < 80 by omega) (by decide), clN (show i < 2 ^ 31 by omega), es, z48]
      by_cases h1 : e - i ≤ 1
      · rw [if_pos h1, e3_88]
        simp only [e3_0, e3_1, e3_4, e3_5, e3_6, e3_7, e3_8, e3_11, e3_12, e3_15, e3_18, e3_19, e3_22, e3_25, e3_26, e3_28, e3_29, e3_30, e3_33, e3_34, e3_35, e3_36, e3_36r, e3_37, e3_40, e3_41, e3_42, e3_45, e3_49, e3_52, e3_53, e3_54, e3_56, e3_58, e3_61, e3_62, e3_65, e3_66, e3_68, e3_69, e3_72, e3_73, e3_76, e3_77, e3_78, e3_80, e3_83, e3_84, e3_87, e3_90, e3_92, e3_95, e3_97, e3_98, e3_101, e3_102, e3_104, e3_107, e3_108, e3_109, e3_110, e3_111, eq_self, kcat_nil, kcat_int, kcat_long, kcat_ref, kNL_int, kNL_ref, kNL_null, Option.toList_some, Option.toList_none, List.nil_append, List.cons_append, Nat.reduceAdd, Nat.reduceLeDiff, Nat.reduceEqDiff, true_and, and_true, true_or, or_true, false_or, or_false, ite_true, ite_false, n10, not_true_eq_false, if_false, z4]
        rw [if_pos (by omega)]
        exact mk ⟨by omega, by omega, Or.inr (by omega)⟩
      · rw [if_neg h1]
        by_cases h2 : tx i = 48
        · rw [if_neg (fun z => z h2), e3_88]
          simp only [e3_0, e3_1, e3_4, e3_5, e3_6, e3_7, e3_8, e3_11, e3_12, e3_15, e3_18, e3_19, e3_22, e3_25, e3_26, e3_28, e3_29, e3_30, e3_33, e3_34, e3_35, e3_36, e3_36r, e3_37, e3_40, e3_41, e3_42, e3_45, e3_49, e3_52, e3_53, e3_54, e3_56, e3_58, e3_61, e3_62, e3_65, e3_66, e3_68, e3_69, e3_72, e3_73, e3_76, e3_77, e3_78, e3_80, e3_83, e3_84, e3_87, e3_90, e3_92, e3_95, e3_97, e3_98, e3_101, e3_102, e3_104, e3_107, e3_108, e3_109, e3_110, e3_111, eq_self, kcat_nil, kcat_int, kcat_long, kcat_ref, kNL_int, kNL_ref, kNL_null, Option.toList_some, Option.toList_none, List.nil_append, List.cons_append, Nat.reduceAdd, Nat.reduceLeDiff, Nat.reduceEqDiff, true_and, and_true, true_or, or_true, false_or, or_false, ite_true, ite_false, n10, not_false_eq_true]
          exact hE (fun z => by have := z.2.2; omega) M h.2.2.2.2 h.1 h.2.1
        · rw [if_pos h2, e3_88]
          simp only [e3_0, e3_1, e3_4, e3_5, e3_6, e3_7, e3_8, e3_11, e3_12, e3_15, e3_18, e3_19, e3_22, e3_25, e3_26, e3_28, e3_29, e3_30, e3_33, e3_34, e3_35, e3_36, e3_36r, e3_37, e3_40, e3_41, e3_42, e3_45, e3_49, e3_52, e3_53, e3_54, e3_56, e3_58, e3_61, e3_62, e3_65, e3_66, e3_68, e3_69, e3_72, e3_73, e3_76, e3_77, e3_78, e3_80, e3_83, e3_84, e3_87, e3_90, e3_92, e3_95, e3_97, e3_98, e3_101, e3_102, e3_104, e3_107, e3_108, e3_109, e3_110, e3_111, eq_self, kcat_nil, kcat_int, kcat_long, kcat_ref, kNL_int, kNL_ref, kNL_null, Option.toList_some, Option.toList_none, List.nil_append, List.cons_append, Nat.reduceAdd, Nat.reduceLeDiff, Nat.reduceEqDiff, true_and, and_true, true_or, or_true, false_or, or_false, ite_true, ite_false, n10, not_true_eq_false, if_false, z4]
          by_cases h3 : e - i ≤ 4
          · rw [if_pos h3]
            exact mk ⟨by omega, h3, Or.inl h2⟩
          · rw [if_neg h3]
            exact hE (fun z => h3 z.2.1) M h.2.2.2.2 h.1 h.2.1
  have loop : ∀ d j, j + d = len → i ≤ j → dgG tx d j = e → ∀ M, PX len tx g j M0 M → M 165 s = 1 → kE 3 7 [.ref 162, .int (nI s), .int (nI i), .int (nI (vaG tx i (j - i))), .null, .null] [] M Q := by
    intro d
    induction d with
    | zero =>
      intro j hd hij hde M h g0
      have e3 := h.1
      have e4 := h.2.2.1
      have zl : (nI len ≤ nI j) ↔ len ≤ j := nI_le_iff (by omega) (by omega)
      have nl : len ≤ j := by omega
      have hje : j = e := hde
      rw [e3_7]
      simp only [e3_0, e3_1, e3_4, e3_5, e3_6, e3_8, e3_11, e3_12, e3_15, e3_18, e3_19, e3_22, e3_25, e3_26, e3_28, e3_29, e3_30, e3_33, e3_34, e3_35, e3_36, e3_36r, e3_37, e3_40, e3_41, e3_42, e3_45, e3_49, e3_52, e3_53, e3_54, e3_56, e3_58, e3_61, e3_62, e3_65, e3_66, e3_68, e3_69, e3_72, e3_73, e3_76, e3_77, e3_78, e3_80, e3_83, e3_84, e3_87, e3_88, e3_90, e3_92, e3_95, e3_97, e3_98, e3_101, e3_102, e3_103, e3_104, e3_107, e3_108, e3_109, e3_110, e3_111, eq_self, kcat_nil, kcat_int, kcat_long, kcat_ref, kNL_int, kNL_ref, kNL_null, Option.toList_some, Option.toList_none, List.nil_append, List.cons_append, Nat.reduceAdd, Nat.reduceLeDiff, Nat.reduceEqDiff, true_and, and_true, true_or, or_true, false_or, or_false, ite_true, ite_false, tp7, e3, e4, zl, nl, if_true]
      rw [hje] at h ⊢
      exact fin M h g0
    | succ d ih =>
      intro j hd hij hde M h g0
      have e3 := h.1
      have e4 := h.2.2.1
      have zl : (nI len ≤ nI j) ↔ len ≤ j := nI_le_iff (by omega) (by omega)
      have nl : ¬ len ≤ j := by omega
      have hlt : j < len := by omega
      have dg := fun Q' => x_isDigit (Q := Q') hT (by omega) h
      rw [dgG] at hde
      rw [e3_7]
      by_cases h1 : 48 ≤ tx j ∧ tx j ≤ 57
      · rw [if_pos h1] at hde
        have dg2 := fun Q' => x_digit (Q := Q') hT hlt h1.1 h
        have c1 : j < len ∧ 48 ≤ tx j ∧ tx j ≤ 57 := ⟨hlt, h1⟩
        have ev : nI (vaG tx i (j - i)) * 10 + nI (tx j - 48) = nI (vaG tx i (j + 1 - i)) := by
          rw [li10, pk_mul, nI_add, show j + 1 - i = (j - i) + 1 from by omega, vaG, show i + (j - i) = j from by omega]
        simp only [e3_0, e3_1, e3_4, e3_5, e3_6, e3_8, e3_11, e3_12, e3_15, e3_18, e3_19, e3_22, e3_25, e3_26, e3_28, e3_29, e3_30, e3_33, e3_34, e3_35, e3_36, e3_36r, e3_37, e3_40, e3_41, e3_42, e3_45, e3_49, e3_52, e3_53, e3_54, e3_56, e3_58, e3_61, e3_62, e3_65, e3_66, e3_68, e3_69, e3_72, e3_73, e3_76, e3_77, e3_78, e3_80, e3_83, e3_84, e3_87, e3_88, e3_90, e3_92, e3_95, e3_97, e3_98, e3_101, e3_102, e3_103, e3_104, e3_107, e3_108, e3_109, e3_110, e3_111, eq_self, kcat_nil, kcat_int, kcat_long, kcat_ref, kNL_int, kNL_ref, kNL_null, Option.toList_some, Option.toList_none, List.nil_append, List.cons_append, Nat.reduceAdd, Nat.reduceLeDiff, Nat.reduceEqDiff, true_and, and_true, true_or, or_true, false_or, or_false, ite_true, ite_false, tp7, e3, e4, zl, nl, if_false, dg, c1, and_self, n10, dg2, ev, nI_add1]
        exact ih (j + 1) (by omega) (by omega) hde _ (h.mov (j + 1)) (by rw [mset_off (by decide)]; exact g0)
      · rw [if_neg h1] at hde
        have c1 : ¬ (j < len ∧ 48 ≤ tx j ∧ tx j ≤ 57) := fun z => h1 z.2
        simp only [e3_0, e3_1, e3_4, e3_5, e3_6, e3_8, e3_11, e3_12, e3_15, e3_18, e3_19, e3_22, e3_25, e3_26, e3_28, e3_29, e3_30, e3_33, e3_34, e3_35, e3_36, e3_36r, e3_37, e3_40, e3_41, e3_42, e3_45, e3_49, e3_52, e3_53, e3_54, e3_56, e3_58, e3_61, e3_62, e3_65, e3_66, e3_68, e3_69, e3_72, e3_73, e3_76, e3_77, e3_78, e3_80, e3_83, e3_84, e3_87, e3_88, e3_90, e3_92, e3_95, e3_97, e3_98, e3_101, e3_102, e3_103, e3_104, e3_107, e3_108, e3_109, e3_110, e3_111, eq_self, kcat_nil, kcat_int, kcat_long, kcat_ref, kNL_int, kNL_ref, kNL_null, Option.toList_some, Option.toList_none, List.nil_append, List.cons_append, Nat.reduceAdd, Nat.reduceLeDiff, Nat.reduceEqDiff, true_and, and_true, true_or, or_true, false_or, or_false, ite_true, ite_false, tp7, e3, e4, zl, nl, if_false, dg, c1]
        rw [hde] at h ⊢
        exact fin M h g0
  have e4 := h.2.2.1
  have L := loop (len - i) i (by omega) (Nat.le_refl _) he.symm M h g0
  rw [Nat.sub_self] at L
  simp only [e3_0, e3_1, e3_4, e3_5, e3_6, e3_8, e3_11, e3_12, e3_15, e3_18, e3_19, e3_22, e3_25, e3_26, e3_28, e3_29, e3_30, e3_33, e3_34, e3_35, e3_36, e3_36r, e3_37, e3_40, e3_41, e3_42, e3_45, e3_48, e3_49, e3_52, e3_53, e3_54, e3_56, e3_58, e3_61, e3_62, e3_65, e3_66, e3_68, e3_69, e3_72, e3_73, e3_76, e3_77, e3_78, e3_80, e3_83, e3_84, e3_87, e3_88, e3_90, e3_92, e3_95, e3_97, e3_98, e3_101, e3_102, e3_103, e3_104, e3_107, e3_108, e3_109, e3_110, e3_111, eq_self, kcat_nil, kcat_int, kcat_long, kcat_ref, kNL_int, kNL_ref, kNL_null, Option.toList_some, Option.toList_none, List.nil_append, List.cons_append, Nat.reduceAdd, Nat.reduceLeDiff, Nat.reduceEqDiff, true_and, and_true, true_or, or_true, false_or, or_false, ite_true, ite_false, tp7, e4]
  exact L
end PX
