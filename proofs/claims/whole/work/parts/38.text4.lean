/-! the text: the reference's pairs -/
section PY
variable {len : Nat} {tx g : Nat → Nat} {i : Nat} {M0 M : KMem} {Q : Option Value → KMem → Prop}
theorem y_digits {i3 e s f : Nat} {fi : Int32} (hT : TxOk len tx) (hi : i3 ≤ len) (he : e = dgN len tx i3) (hs : s < 10) (h : PY len tx g i3 M0 M)
    (hQ : ∀ M', PY len tx g e M0 M' → kE 81 148 [.ref 166, .int (nI s), .int fi, .int (nI i3), .int (nI (capG tx i3 (e - i3))), .null] [] M' Q) : kE 81 73 [.ref 166, .int (nI s), .int fi, .int (nI i3), .int 0, .null] [] M Q := by
  have n10 : ¬ (1 : Int32) = 0 := by decide
  have hl := hT.1
  have loop : ∀ d j, j + d = len → i3 ≤ j → dgG tx d j = e → (∀ r, i3 ≤ r → r < j → tx r ≤ 57) → ∀ M, PY len tx g j M0 M → kE 81 73 [.ref 166, .int (nI s), .int fi, .int (nI i3), .int (nI (capG tx i3 (j - i3))), .null] [] M Q := by
    intro d
    induction d with
    | zero =>
      intro j hd hij hde hr M h
      have e4 := h.1.1
      have e7 := h.2.1
      have zl : (nI len ≤ nI j) ↔ len ≤ j := nI_le_iff (by omega) (by omega)
      have nl : len ≤ j := by omega
      have hje : j = e := hde
      rw [e81_73]
      simp only [e81_0, e81_1, e81_4, e81_6, e81_7, e81_8, e81_9, e81_10, e81_12, e81_15, e81_18, e81_19, e81_22, e81_23, e81_24, e81_27, e81_28, e81_29, e81_30, e81_30r, e81_31, e81_34, e81_35, e81_36, e81_39, e81_40, e81_43, e81_45, e81_48, e81_49, e81_50, e81_51, e81_51r, e81_52, e81_55, e81_56, e81_57, e81_60, e81_61, e81_64, e81_65, e81_66, e81_69, e81_70, e81_71, e81_74, e81_77, e81_78, e81_81, e81_84, e81_85, e81_88, e81_89, e81_92, e81_93, e81_95, e81_97, e81_100, e81_103, e81_105, e81_107, e81_110, e81_112, e81_114, e81_115, e81_116, e81_119, e81_120, e81_123, e81_124, e81_125, e81_127, e81_128, e81_131, e81_133, e81_135, e81_136, e81_136r, e81_137, e81_140, e81_141, e81_142, e81_145, e81_149, e81_152, e81_153, e81_154, e81_155, e81_156, e81_159, e81_162, e81_163, e81_165, e81_168, e81_169, e81_172, e81_173, e81_174, e81_175, e81_178, e81_179, e81_182, e81_183, e81_185, e81_186, e81_189, e81_190, e81_192, e81_195, e81_197, e81_200, e81_201, e81_202, e81_203, e81_205, e81_208, e81_209, e81_212, e81_215, e81_216, e81_219, e81_221, eq_self, kcat_nil, kcat_int, kcat_long, kcat_ref, kNL_int, kNL_ref, kNL_null, Option.toList_some, Option.toList_none, List.nil_append, List.cons_append, Nat.reduceAdd, Nat.reduceLeDiff, Nat.reduceEqDiff, true_and, and_true, true_or, or_true, false_or, or_false, ite_true, ite_false, my1, e4, e7, zl, nl, if_true]
      rw [hje] at h ⊢
      exact hQ M h
    | succ d ih =>
      intro j hd hij hde hr M h
      have e4 := h.1.1
      have e7 := h.2.1
      have zl : (nI len ≤ nI j) ↔ len ≤ j := nI_le_iff (by omega) (by omega)
      have nl : ¬ len ≤ j := by omega
      have hlt : j < len := by omega
      have hb := hT.2 j hlt
      have es := h.1.2.1 j hlt
      have bd := bb_dg (tx j) (by omega)
      rw [dgG] at hde
      rw [e81_73]
      by_cases h1 : 48 ≤ tx j ∧ tx j ≤ 57
      · rw [if_pos h1] at hde
        have be := bb_eq (tx j) (by omega) h1.1 h1.2
        have hcap := capG_le tx i3 (j - i3) (fun r hr2 => hr _ (by omega) (by omega))
        have zc : ((100000 : Int32) ≤ nI (capG tx i3 (j - i3))) ↔ 100000 ≤ capG tx i3 (j - i3) := nI_le_iff (a := 100000) (by decide) (by omega)
        have ec : capG tx i3 (j + 1 - i3) = if capG tx i3 (j - i3) < 100000 then 10 * capG tx i3 (j - i3) + (tx j - 48) else capG tx i3 (j - i3) := by
          rw [show j + 1 - i3 = (j - i3) + 1 from by omega, capG, show i3 + (j - i3) = j from by omega]
        have ev : nI (10 * capG tx i3 (j - i3) + tx j) - 48 = nI (10 * capG tx i3 (j - i3) + (tx j - 48)) := by
          rw [show (48 : Int32) = nI 48 from rfl, pk_sub (by omega)]
          exact congrArg nI (by omega)
        have c1 : (48 : Int32) ≤ nI (tx j) ∧ nI (tx j) ≤ 57 := by
          have := bd.mpr h1
          rw [be] at this
          exact this
        have nxt := ih (j + 1) (by omega) (by omega) hde (fun r q1 q2 => by
          by_cases hrj : r = j
          · rw [hrj]; exact h1.2
          · exact hr r q1 (by omega)) _ (h.mov (j + 1))
        rw [ec] at nxt
        simp only [e81_0, e81_1, e81_4, e81_6, e81_7, e81_8, e81_9, e81_10, e81_12, e81_15, e81_18, e81_19, e81_22, e81_23, e81_24, e81_27, e81_28, e81_29, e81_30, e81_30r, e81_31, e81_34, e81_35, e81_36, e81_39, e81_40, e81_43, e81_45, e81_48, e81_49, e81_50, e81_51, e81_51r, e81_52, e81_55, e81_56, e81_57, e81_60, e81_61, e81_64, e81_65, e81_66, e81_69, e81_70, e81_71, e81_74, e81_77, e81_78, e81_81, e81_84, e81_85, e81_88, e81_89, e81_92, e81_93, e81_95, e81_97, e81_100, e81_103, e81_105, e81_107, e81_110, e81_112, e81_114, e81_115, e81_116, e81_119, e81_120, e81_123, e81_124, e81_125, e81_127, e81_128, e81_131, e81_135, e81_136, e81_136r, e81_137, e81_140, e81_141, e81_142, e81_145, e81_149, e81_152, e81_153, e81_154, e81_155, e81_156, e81_159, e81_162, e81_163, e81_165, e81_168, e81_169, e81_172, e81_173, e81_174, e81_175, e81_178, e81_179, e81_182, e81_183, e81_185, e81_186, e81_189, e81_190, e81_192, e81_195, e81_197, e81_200, e81_201, e81_202, e81_203, e81_205, e81_208, e81_209, e81_212, e81_215, e81_216, e81_219, e81_221, eq_self, kcat_nil, kcat_int, kcat_long, kcat_ref, kNL_int, kNL_ref, kNL_null, Option.toList_some, Option.toList_none, List.nil_append, List.cons_append, Nat.reduceAdd, Nat.reduceLeDiff, Nat.reduceEqDiff, true_and, and_true, true_or, or_true, false_or, or_false, ite_true, ite_false, my1, my4, my9, my14, e4, e7, zl, nl, if_false, kin_nI (show j < 80 by omega) (by decide), clN (show j < 2 ^ 31 by omega), es, be, y_in, c1, and_self, n10, zc]
        by_cases hc : capG tx i3 (j - i3) < 100000
        · rw [if_neg (by omega), e81_133]
          rw [if_pos hc] at nxt
          simp only [e81_0, e81_1, e81_4, e81_6, e81_7, e81_8, e81_9, e81_10, e81_12, e81_15, e81_18, e81_19, e81_22, e81_23, e81_24, e81_27, e81_28, e81_29, e81_30, e81_30r, e81_31, e81_34, e81_35, e81_36, e81_39, e81_40, e81_43, e81_45, e81_48, e81_49, e81_50, e81_51, e81_51r, e81_52, e81_55, e81_56, e81_57, e81_60, e81_61, e81_64, e81_65, e81_66, e81_69, e81_70, e81_71, e81_74, e81_77, e81_78, e81_81, e81_84, e81_85, e81_88, e81_89, e81_92, e81_93, e81_95, e81_97, e81_100, e81_103, e81_105, e81_107, e81_110, e81_112, e81_114, e81_115, e81_116, e81_119, e81_120, e81_123, e81_124, e81_125, e81_127, e81_128, e81_131, e81_135, e81_136, e81_136r, e81_137, e81_140, e81_141, e81_142, e81_145, e81_149, e81_152, e81_153, e81_154, e81_155, e81_156, e81_159, e81_162, e81_163, e81_165, e81_168, e81_169, e81_172, e81_173, e81_174, e81_175, e81_178, e81_179, e81_182, e81_183, e81_185, e81_186, e81_189, e81_190, e81_192, e81_195, e81_197, e81_200, e81_201, e81_202, e81_203, e81_205, e81_208, e81_209, e81_212, e81_215, e81_216, e81_219, e81_221, eq_self, kcat_nil, kcat_int, kcat_long, kcat_ref, kNL_int, kNL_ref, kNL_null, Option.toList_some, Option.toList_none, List.nil_append, List.cons_append, Nat.reduceAdd, Nat.reduceLeDiff, Nat.reduceEqDiff, true_and, and_true, true_or, or_true, false_or, or_false, ite_true, ite_false, my1, e7, nI_add1, li10, pk_mul, nI_add, ev]
          exact nxt
        · rw [if_pos (by omega), e81_133]
          rw [if_neg hc] at nxt
          simp only [e81_0, e81_1, e81_4, e81_6, e81_7, e81_8, e81_9, e81_10, e81_12, e81_15, e81_18, e81_19, e81_22, e81_23, e81_24, e81_27, e81_28, e81_29, e81_30, e81_30r, e81_31, e81_34, e81_35, e81_36, e81_39, e81_40, e81_43, e81_45, e81_48, e81_49, e81_50, e81_51, e81_51r, e81_52, e81_55, e81_56, e81_57, e81_60, e81_61, e81_64, e81_65, e81_66, e81_69, e81_70, e81_71, e81_74, e81_77, e81_78, e81_81, e81_84, e81_85, e81_88, e81_89, e81_92, e81_93, e81_95, e81_97, e81_100, e81_103, e81_105, e81_107, e81_110, e81_112, e81_114, e81_115, e81_116, e81_119, e81_120, e81_123, e81_124, e81_125, e81_127, e81_128, e81_131, e81_135, e81_136, e81_136r, e81_137, e81_140, e81_141, e81_142, e81_145, e81_149, e81_152, e81_153, e81_154, e81_155, e81_156, e81_159, e81_162, e81_163, e81_165, e81_168, e81_169, e81_172, e81_173, e81_174, e81_175, e81_178, e81_179, e81_182, e81_183, e81_185, e81_186, e81_189, e81_190, e81_192, e81_195, e81_197, e81_200, e81_201, e81_202, e81_203, e81_205, e81_208, e81_209, e81_212, e81_215, e81_216, e81_219, e81_221, eq_self, kcat_nil, kcat_int, kcat_long, kcat_ref, kNL_int, kNL_ref, kNL_null, Option.toList_some, Option.toList_none, List.nil_append, List.cons_append, Nat.reduceAdd, Nat.reduceLeDiff, Nat.reduceEqDiff, true_and, and_true, true_or, or_true, false_or, or_false, ite_true, ite_false, my1, e7, nI_add1]
          exact nxt
      · rw [if_neg h1] at hde
        have c1 : ¬ ((48 : Int32) ≤ k_i2b (nI (tx j)) ∧ k_i2b (nI (tx j)) ≤ 57) := fun z => h1 (bd.mp z)
        simp only [e81_0, e81_1, e81_4, e81_6, e81_7, e81_8, e81_9, e81_10, e81_12, e81_15, e81_18, e81_19, e81_22, e81_23, e81_24, e81_27, e81_28, e81_29, e81_30, e81_30r, e81_31, e81_34, e81_35, e81_36, e81_39, e81_40, e81_43, e81_45, e81_48, e81_49, e81_50, e81_51, e81_51r, e81_52, e81_55, e81_56, e81_57, e81_60, e81_61, e81_64, e81_65, e81_66, e81_69, e81_70, e81_71, e81_74, e81_77, e81_78, e81_81, e81_84, e81_85, e81_88, e81_89, e81_92, e81_93, e81_95, e81_97, e81_100, e81_103, e81_105, e81_107, e81_110, e81_112, e81_114, e81_115, e81_116, e81_119, e81_120, e81_123, e81_124, e81_125, e81_127, e81_128, e81_131, e81_133, e81_135, e81_136, e81_136r, e81_137, e81_140, e81_141, e81_142, e81_145, e81_149, e81_152, e81_153, e81_154, e81_155, e81_156, e81_159, e81_162, e81_163, e81_165, e81_168, e81_169, e81_172, e81_173, e81_174, e81_175, e81_178, e81_179, e81_182, e81_183, e81_185, e81_186, e81_189, e81_190, e81_192, e81_195, e81_197, e81_200, e81_201, e81_202, e81_203, e81_205, e81_208, e81_209, e81_212, e81_215, e81_216, e81_219, e81_221, eq_self, kcat_nil, kcat_int, kcat_long, kcat_ref, kNL_int, kNL_ref, kNL_null, Option.toList_some, Option.toList_none, List.nil_append, List.cons_append, Nat.reduceAdd, Nat.reduceLeDiff, Nat.reduceEqDiff, true_and, and_true, true_or, or_true, false_or, or_false, ite_true, ite_false, my1, my4, my9, my14, e4, e7, zl, nl, if_false, kin_nI (show j < 80 by omega) (by decide), clN (show j < 2 ^ 31 by omega), es, y_in, c1]
        rw [hde] at h ⊢
        exact hQ M h
  have L := loop (len - i3) i3 (by omega) (Nat.le_refl _) he.symm (fun r q1 q2 => by omega) M h
  rw [Nat.sub_self] at L
  exact L
theorem y_readsPair (hT : TxOk len tx) (hi : i ≤ len) (hg : ∀ s, g s ≤ 10000) (h : PY len tx g i M0 M)
    (hE : ∀ p, prr len tx g i = (false, p, 0, 0) → p ≤ len → ∀ M', WY len tx M0 M' → M' 166 7 = nI p → Q (some (.int 0)) M')
    (hK : ∀ e s v, prr len tx g i = (true, e, s, v) → s < 10 → e ≤ len → g s = 0 → v ≤ 9999 → ∀ M', PY len tx (nu g s (v + 1)) e M0 M' → Q (some (.int 1)) M') : kE 81 0 [.ref 166, .null, .null, .null, .null, .null] [] M Q := by
  have n10 : ¬ (1 : Int32) = 0 := by decide
  have hl := hT.1
  obtain ⟨i1, h1⟩ : ∃ i1, i1 = skN len tx i := ⟨_, rfl⟩
  obtain ⟨i2, h2⟩ : ∃ i2, i2 = skN len tx (i1 + 1) := ⟨_, rfl⟩
  obtain ⟨i3, h3⟩ : ∃ i3, i3 = skN len tx (i2 + 1) := ⟨_, rfl⟩
  obtain ⟨e, he⟩ : ∃ e, e = dgN len tx i3 := ⟨_, rfl⟩
  unfold prr at hE hK
  rw [← h1, ← h2, ← h3, ← he] at hE hK
  have b1 := skN_le (tx := tx) hi
  rw [← h1] at b1
  simp only [e81_0, e81_1, e81_6, e81_7, e81_8, e81_9, e81_10, e81_12, e81_15, e81_18, e81_19, e81_22, e81_23, e81_24, e81_27, e81_28, e81_29, e81_30, e81_30r, e81_31, e81_34, e81_35, e81_36, e81_39, e81_40, e81_43, e81_45, e81_48, e81_49, e81_50, e81_51, e81_51r, e81_52, e81_55, e81_56, e81_57, e81_60, e81_61, e81_64, e81_65, e81_66, e81_69, e81_70, e81_71, e81_74, e81_77, e81_78, e81_81, e81_84, e81_85, e81_88, e81_89, e81_92, e81_93, e81_95, e81_97, e81_100, e81_103, e81_105, e81_107, e81_110, e81_112, e81_114, e81_115, e81_116, e81_119, e81_120, e81_123, e81_124, e81_125, e81_127, e81_128, e81_131, e81_133, e81_135, e81_136, e81_136r, e81_137, e81_140, e81_141, e81_142, e81_145, e81_148, e81_149, e81_152, e81_153, e81_154, e81_155, e81_156, e81_159, e81_162, e81_163, e81_165, e81_168, e81_169, e81_172, e81_173, e81_174, e81_175, e81_178, e81_179, e81_182, e81_183, e81_185, e81_186, e81_189, e81_190, e81_192, e81_195, e81_197, e81_200, e81_201, e81_202, e81_203, e81_205, e81_208, e81_209, e81_212, e81_215, e81_216, e81_219, e81_221, eq_self, kcat_nil, kcat_int, kcat_long, kcat_ref, kNL_int, kNL_ref, kNL_null, Option.toList_some, Option.toList_none, List.nil_append, List.cons_append, Nat.reduceAdd, Nat.reduceLeDiff, Nat.reduceEqDiff, true_and, and_true, true_or, or_true, false_or, or_false, ite_true, ite_false, my1]
  refine y_here hT hi h (fun M1 hP1 => ?_)
  rw [← h1] at hP1 ⊢
  have e1 := hP1.2.1
  by_cases hd : i1 < len ∧ 48 ≤ tx i1 ∧ tx i1 ≤ 57
  · obtain ⟨s, hs⟩ : ∃ s, s = tx i1 - 48 := ⟨_, rfl⟩
    have hs10 : s < 10 := by omega
    rw [if_pos hd.1]
    have es : nI (tx i1) - 48 = nI s := by rw [hs, show (48 : Int32) = nI 48 from rfl, pk_sub hd.2.1]
    have cs : (0 : Int32) ≤ nI s ∧ nI s ≤ 9 := rng_in (lo := 0) (hi := 9) (by omega) (by omega) (by decide)
    have et := hP1.2.2 s hs10
    have zt : (nI (g s) - 1 < 0) ↔ g s = 0 := by
      by_cases hg0 : g s = 0
      · rw [hg0]; exact ⟨fun _ => rfl, fun _ => by decide⟩
      · have := hg s
        rw [show (1 : Int32) = nI 1 from rfl, pk_sub (by omega), show (0 : Int32) = nI 0 from rfl, nI_lt_iff (by omega) (by decide)]
        omega
    simp only [e81_0, e81_1, e81_4, e81_6, e81_7, e81_8, e81_9, e81_10, e81_12, e81_15, e81_18, e81_19, e81_22, e81_23, e81_24, e81_27, e81_28, e81_29, e81_30, e81_30r, e81_31, e81_34, e81_35, e81_36, e81_39, e81_40, e81_45, e81_48, e81_49, e81_50, e81_51, e81_51r, e81_52, e81_55, e81_56, e81_57, e81_60, e81_61, e81_64, e81_65, e81_66, e81_69, e81_70, e81_71, e81_74, e81_77, e81_78, e81_81, e81_84, e81_85, e81_88, e81_89, e81_92, e81_93, e81_95, e81_97, e81_100, e81_103, e81_105, e81_107, e81_110, e81_112, e81_114, e81_115, e81_116, e81_119, e81_120, e81_123, e81_124, e81_125, e81_127, e81_128, e81_131, e81_133, e81_135, e81_136, e81_136r, e81_137, e81_140, e81_141, e81_142, e81_145, e81_148, e81_149, e81_152, e81_153, e81_154, e81_155, e81_156, e81_159, e81_162, e81_163, e81_165, e81_168, e81_169, e81_172, e81_173, e81_174, e81_175, e81_178, e81_179, e81_182, e81_183, e81_185, e81_186, e81_189, e81_190, e81_192, e81_195, e81_197, e81_200, e81_201, e81_202, e81_203, e81_205, e81_208, e81_209, e81_212, e81_215, e81_216, e81_219, e81_221, eq_self, kcat_nil, kcat_int, kcat_long, kcat_ref, kNL_int, kNL_ref, kNL_null, Option.toList_some, Option.toList_none, List.nil_append, List.cons_append, Nat.reduceAdd, Nat.reduceLeDiff, Nat.reduceEqDiff, true_and, and_true, true_or, or_true, false_or, or_false, ite_true, ite_false, my1, my6, my11, my16, es, y_in, cs, and_self, n10, if_false, kin_nI (show s < 10 by omega) (by decide), clN (show s < 2 ^ 31 by omega), et, zt, e1, nI_add1]
    by_cases hgs : g s = 0
    · have hA : prA len tx g i1 := ⟨hd.1, hd.2, by rw [← hs]; exact hgs⟩
      rw [if_pos hA] at hE hK
      rw [if_pos hgs]
      have b2 := skN_le (len := len) (tx := tx) (i := i1 + 1) (by omega)
      rw [← h2] at b2
      refine y_here hT (by omega) (hP1.mov (i1 + 1)) (fun M2 hP2 => ?_)
      rw [← h2] at hP2 ⊢
      have e2 := hP2.2.1
      have z58 : ((if i2 < len then nI (tx i2) else -1) = 58) ↔ (i2 < len ∧ tx i2 = 58) := by
        by_cases hlt : i2 < len
        · rw [if_pos hlt]
          have := hT.2 i2 hlt
          have q : (nI (tx i2) = 58) ↔ tx i2 = 58 := nI_eq_iff (b := 58) (by omega) (by decide)
          exact ⟨fun z => ⟨hlt, q.mp z⟩, fun z => q.mpr z.2⟩
        · rw [if_neg hlt]
          exact ⟨fun z => absurd z (by decide), fun z => absurd z.1 hlt⟩
      simp only [e81_0, e81_1, e81_4, e81_6, e81_7, e81_8, e81_9, e81_10, e81_12, e81_15, e81_18, e81_19, e81_22, e81_23, e81_24, e81_27, e81_28, e81_29, e81_30, e81_30r, e81_31, e81_34, e81_35, e81_36, e81_39, e81_40, e81_43, e81_45, e81_48, e81_49, e81_50, e81_51, e81_51r, e81_52, e81_55, e81_56, e81_57, e81_60, e81_61, e81_65, e81_66, e81_69, e81_70, e81_71, e81_74, e81_77, e81_78, e81_81, e81_84, e81_85, e81_88, e81_89, e81_92, e81_93, e81_95, e81_97, e81_100, e81_103, e81_105, e81_107, e81_110, e81_112, e81_114, e81_115, e81_116, e81_119, e81_120, e81_123, e81_124, e81_125, e81_127, e81_128, e81_131, e81_133, e81_135, e81_136, e81_136r, e81_137, e81_140, e81_141, e81_142, e81_145, e81_148, e81_149, e81_152, e81_153, e81_154, e81_155, e81_156, e81_159, e81_162, e81_163, e81_165, e81_168, e81_169, e81_172, e81_173, e81_174, e81_175, e81_178, e81_179, e81_182, e81_183, e81_185, e81_186, e81_189, e81_190, e81_192, e81_195, e81_197, e81_200, e81_201, e81_202, e81_203, e81_205, e81_208, e81_209, e81_212, e81_215, e81_216, e81_219, e81_221, eq_self, kcat_nil, kcat_int, kcat_long, kcat_ref, kNL_int, kNL_ref, kNL_null, Option.toList_some, Option.toList_none, List.nil_append, List.cons_append, Nat.reduceAdd, Nat.reduceLeDiff, Nat.reduceEqDiff, true_and, and_true, true_or, or_true, false_or, or_false, ite_true, ite_false, my1, z58, e2, nI_add1]
      by_cases hB : i2 < len ∧ tx i2 = 58
      · rw [if_pos hB] at hE hK ⊢
        have b3 := skN_le (len := len) (tx := tx) (i := i2 + 1) (by omega)
        rw [← h3] at b3
        have b4 := dgN_le (tx := tx) b3.2
        rw [← he] at b4
        refine y_here hT (by omega) (hP2.mov (i2 + 1)) (fun M3 hP3 => ?_)
        rw [← h3] at hP3 ⊢
        have e3 := hP3.2.1
        obtain ⟨fi, hfi⟩ : ∃ fi, fi = if i3 < len then nI (tx i3) else (-1 : Int32) := ⟨_, rfl⟩
        rw [← hfi]
        simp only [e81_0, e81_1, e81_4, e81_6, e81_7, e81_8, e81_9, e81_10, e81_12, e81_15, e81_18, e81_19, e81_22, e81_23, e81_24, e81_27, e81_28, e81_29, e81_30, e81_30r, e81_31, e81_34, e81_35, e81_36, e81_39, e81_40, e81_43, e81_45, e81_48, e81_49, e81_50, e81_51, e81_51r, e81_52, e81_55, e81_56, e81_57, e81_60, e81_61, e81_64, e81_65, e81_66, e81_69, e81_70, e81_71, e81_74, e81_77, e81_78, e81_81, e81_84, e81_85, e81_88, e81_89, e81_92, e81_93, e81_95, e81_97, e81_100, e81_103, e81_105, e81_107, e81_110, e81_112, e81_114, e81_115, e81_116, e81_119, e81_120, e81_123, e81_124, e81_125, e81_127, e81_128, e81_131, e81_133, e81_135, e81_136, e81_136r, e81_137, e81_140, e81_141, e81_142, e81_145, e81_148, e81_149, e81_152, e81_153, e81_154, e81_155, e81_156, e81_159, e81_162, e81_163, e81_165, e81_168, e81_169, e81_172, e81_173, e81_174, e81_175, e81_178, e81_179, e81_182, e81_183, e81_185, e81_186, e81_189, e81_190, e81_192, e81_195, e81_197, e81_200, e81_201, e81_202, e81_203, e81_205, e81_208, e81_209, e81_212, e81_215, e81_216, e81_219, e81_221, eq_self, kcat_nil, kcat_int, kcat_long, kcat_ref, kNL_int, kNL_ref, kNL_null, Option.toList_some, Option.toList_none, List.nil_append, List.cons_append, Nat.reduceAdd, Nat.reduceLeDiff, Nat.reduceEqDiff, true_and, and_true, true_or, or_true, false_or, or_false, ite_true, ite_false, my1, e3]
        refine y_digits (f := 0) hT b3.2 he hs10 hP3 (fun M4 hP4 => ?_)
        have e4 := hP4.2.1
        have sb : nI e - nI i3 = nI (e - i3) := pk_sub b4.1
        have hdig : ∀ j, j < e - i3 → tx (i3 + j) ≤ 57 := fun j hj => (dgG_dig tx (len - i3) i3 (i3 + j) (by omega) (by have : dgG tx (len - i3) i3 = e := he.symm; omega)).2
        -- the last part, with the answer known
        have good : okM tx i3 e → kE 81 183 [.ref 166, .int (nI s), .int fi, .int (nI i3), .int (nI (capG tx i3 (e - i3))), .null] [.int 1] M4 Q := by
          intro ok
          rw [if_pos ok] at hK
          have hv := vaG_lt tx i3 (e - i3) hdig
          have hp : 10 ^ (e - i3) ≤ 10 ^ 4 := Nat.pow_le_pow_right (by decide) ok.2.1
          rw [capG_va tx i3 (e - i3) ok.2.1 hdig, e81_183]
          simp only [e81_0, e81_1, e81_4, e81_6, e81_7, e81_8, e81_9, e81_10, e81_12, e81_15, e81_18, e81_19, e81_22, e81_23, e81_24, e81_27, e81_28, e81_29, e81_30, e81_30r, e81_31, e81_34, e81_35, e81_36, e81_39, e81_40, e81_43, e81_45, e81_48, e81_49, e81_50, e81_51, e81_51r, e81_52, e81_55, e81_56, e81_57, e81_60, e81_61, e81_64, e81_65, e81_66, e81_69, e81_70, e81_71, e81_73, e81_74, e81_77, e81_78, e81_81, e81_84, e81_85, e81_88, e81_89, e81_92, e81_93, e81_95, e81_97, e81_100, e81_103, e81_105, e81_107, e81_110, e81_112, e81_114, e81_115, e81_116, e81_119, e81_120, e81_123, e81_124, e81_125, e81_127, e81_128, e81_131, e81_133, e81_135, e81_136, e81_136r, e81_137, e81_140, e81_141, e81_142, e81_145, e81_148, e81_149, e81_152, e81_153, e81_154, e81_155, e81_156, e81_159, e81_162, e81_163, e81_165, e81_168, e81_169, e81_172, e81_173, e81_174, e81_175, e81_178, e81_179, e81_182, e81_185, e81_186, e81_189, e81_190, e81_192, e81_195, e81_197, e81_200, e81_201, e81_202, e81_203, e81_205, e81_208, e81_209, e81_212, e81_215, e81_216, e81_219, e81_221, eq_self, kcat_nil, kcat_int, kcat_long, kcat_ref, kNL_int, kNL_ref, kNL_null, Option.toList_some, Option.toList_none, List.nil_append, List.cons_append, Nat.reduceAdd, Nat.reduceLeDiff, Nat.reduceEqDiff, true_and, and_true, true_or, or_true, false_or, or_false, ite_true, ite_false, my1, my6, my11, my16, n10, if_false, kin_nI (show s < 10 by omega) (by decide), clN (show s < 2 ^ 31 by omega), mset_off (show (166 : Nat) ≠ 171 by decide), e4]
          refine hK e s _ (by rw [hs]) hs10 b4.2 hgs (by omega) _ ⟨(hP4.1.tol _ _).nxt _, mset_eq _ _ _ _, fun r hr => ?_⟩
          rw [mset_off (show (171 : Nat) ≠ 166 by decide)]
          by_cases hrs : r = s
          · rw [hrs, mset_eq, nu_eq, show (1 : Int32) = nI 1 from rfl, pk_sub (by omega), Nat.add_sub_cancel]
          · rw [mset_ne (by omega), nu_ne hrs]
            exact hP4.2.2 r hr
        have bad : ¬ okM tx i3 e → kE 81 183 [.ref 166, .int (nI s), .int fi, .int (nI i3), .int (nI (capG tx i3 (e - i3))), .null] [.int 0] M4 Q := by
          intro nok
          rw [if_neg nok] at hE
          rw [e81_183]
          simp only [e81_0, e81_1, e81_4, e81_6, e81_7, e81_8, e81_9, e81_10, e81_12, e81_15, e81_18, e81_19, e81_22, e81_23, e81_24, e81_27, e81_28, e81_29, e81_30, e81_30r, e81_31, e81_34, e81_35, e81_36, e81_39, e81_40, e81_43, e81_45, e81_48, e81_49, e81_50, e81_51, e81_51r, e81_52, e81_55, e81_56, e81_57, e81_60, e81_61, e81_64, e81_65, e81_66, e81_69, e81_70, e81_71, e81_73, e81_74, e81_77, e81_78, e81_81, e81_84, e81_85, e81_88, e81_89, e81_92, e81_93, e81_95, e81_97, e81_100, e81_103, e81_105, e81_107, e81_110, e81_112, e81_114, e81_115, e81_116, e81_119, e81_120, e81_123, e81_124, e81_125, e81_127, e81_128, e81_131, e81_133, e81_135, e81_136, e81_136r, e81_137, e81_140, e81_141, e81_142, e81_145, e81_148, e81_149, e81_152, e81_153, e81_154, e81_155, e81_156, e81_159, e81_162, e81_163, e81_165, e81_168, e81_169, e81_172, e81_173, e81_174, e81_175, e81_178, e81_179, e81_182, e81_185, e81_186, e81_189, e81_190, e81_192, e81_195, e81_197, e81_200, e81_201, e81_202, e81_203, e81_205, e81_208, e81_209, e81_212, e81_215, e81_216, e81_219, e81_221, eq_self, kcat_nil, kcat_int, kcat_long, kcat_ref, kNL_int, kNL_ref, kNL_null, Option.toList_some, Option.toList_none, List.nil_append, List.cons_append, Nat.reduceAdd, Nat.reduceLeDiff, Nat.reduceEqDiff, true_and, and_true, true_or, or_true, false_or, or_false, ite_true, ite_false, my1, my6, my11, my16, kin_nI (show s < 10 by omega) (by decide), clN (show s < 2 ^ 31 by omega)]
          exact hE i3 rfl b3.2 _ ((hP4.1.tol _ _).nxt _) (mset_eq _ _ _ _)
        rw [e81_148]
        rcases rng (nI (e - i3)) 1 4 (by decide) (by decide) with hr | ⟨_, _, _, _⟩
        · have hr' : ¬ (1 ≤ nI (e - i3) ∧ nI (e - i3) ≤ 4) := hr
          simp only [e81_0, e81_1, e81_4, e81_6, e81_7, e81_8, e81_9, e81_10, e81_12, e81_15, e81_18, e81_19, e81_22, e81_23, e81_24, e81_27, e81_28, e81_29, e81_30, e81_30r, e81_31, e81_34, e81_35, e81_36, e81_39, e81_40, e81_43, e81_45, e81_48, e81_49, e81_50, e81_51, e81_51r, e81_52, e81_55, e81_56, e81_57, e81_60, e81_61, e81_64, e81_65, e81_66, e81_69, e81_70, e81_71, e81_73, e81_74, e81_77, e81_78, e81_81, e81_84, e81_85, e81_88, e81_89, e81_92, e81_93, e81_95, e81_97, e81_100, e81_103, e81_105, e81_107, e81_110, e81_112, e81_114, e81_115, e81_116, e81_119, e81_120, e81_123, e81_124, e81_125, e81_127, e81_128, e81_131, e81_133, e81_135, e81_136, e81_136r, e81_137, e81_140, e81_141, e81_142, e81_145, e81_149, e81_152, e81_153, e81_154, e81_155, e81_156, e81_159, e81_162, e81_163, e81_165, e81_168, e81_169, e81_172, e81_173, e81_174, e81_175, e81_178, e81_179, e81_182, e81_185, e81_186, e81_189, e81_190, e81_192, e81_195, e81_197, e81_200, e81_201, e81_202, e81_203, e81_205, e81_208, e81_209, e81_212, e81_215, e81_216, e81_219, e81_221, eq_self, kcat_nil, kcat_int, kcat_long, kcat_ref, kNL_int, kNL_ref, kNL_null, Option.toList_some, Option.toList_none, List.nil_append, List.cons_append, Nat.reduceAdd, Nat.reduceLeDiff, Nat.reduceEqDiff, true_and, and_true, true_or, or_true, false_or, or_false, ite_true, ite_false, my1, e4, sb, y_in, hr', if_false]
          refine bad (fun z => hr ?_)
          exact rng_in z.1 z.2.1 (by decide)
        · by_cases hin : 1 ≤ e - i3 ∧ e - i3 ≤ 4
          · have hr' : (1 : Int32) ≤ nI (e - i3) ∧ nI (e - i3) ≤ 4 := rng_in (lo := 1) (hi := 4) hin.1 hin.2 (by decide)
            have hlt : i3 < len := by omega
            have hb3 := hT.2 i3 hlt
            have z48 : (fi = 48) ↔ tx i3 = 48 := by
              rw [hfi, if_pos hlt]
              exact nI_eq_iff (b := 48) (by omega) (by decide)
            have ze : (nI e = nI (i3 + 1)) ↔ e = i3 + 1 := nI_eq_iff (by omega) (by omega)
            simp only [e81_0, e81_1, e81_4, e81_6, e81_7, e81_8, e81_9, e81_10, e81_12, e81_15, e81_18, e81_19, e81_22, e81_23, e81_24, e81_27, e81_28, e81_29, e81_30, e81_30r, e81_31, e81_34, e81_35, e81_36, e81_39, e81_40, e81_43, e81_45, e81_48, e81_49, e81_50, e81_51, e81_51r, e81_52, e81_55, e81_56, e81_57, e81_60, e81_61, e81_64, e81_65, e81_66, e81_69, e81_70, e81_71, e81_73, e81_74, e81_77, e81_78, e81_81, e81_84, e81_85, e81_88, e81_89, e81_92, e81_93, e81_95, e81_97, e81_100, e81_103, e81_105, e81_107, e81_110, e81_112, e81_114, e81_115, e81_116, e81_119, e81_120, e81_123, e81_124, e81_125, e81_127, e81_128, e81_131, e81_133, e81_135, e81_136, e81_136r, e81_137, e81_140, e81_141, e81_142, e81_145, e81_149, e81_152, e81_153, e81_154, e81_155, e81_156, e81_159, e81_162, e81_163, e81_165, e81_168, e81_169, e81_172, e81_173, e81_174, e81_175, e81_178, e81_179, e81_182, e81_185, e81_186, e81_189, e81_190, e81_192, e81_195, e81_197, e81_200, e81_201, e81_202, e81_203, e81_205, e81_208, e81_209, e81_212, e81_215, e81_216, e81_219, e81_221, eq_self, kcat_nil, kcat_int, kcat_long, kcat_ref, kNL_int, kNL_ref, kNL_null, Option.toList_some, Option.toList_none, List.nil_append, List.cons_append, Nat.reduceAdd, Nat.reduceLeDiff, Nat.reduceEqDiff, true_and, and_true, true_or, or_true, false_or, or_false, ite_true, ite_false, my1, e4, sb, y_in, hr', and_self, n10, if_false, z48, nI_add1, ze]
            by_cases c48 : tx i3 = 48
            · rw [if_neg (fun z => z c48)]
              by_cases ce : e = i3 + 1
              · rw [if_neg (fun z => z ce)]
                exact good ⟨hin.1, hin.2, Or.inr (by omega)⟩
              · rw [if_pos ce]
                exact bad (fun z => by have := z.2.2; omega)
            · rw [if_pos c48]
              exact good ⟨hin.1, hin.2, Or.inl c48⟩
          · have hr' : ¬ ((1 : Int32) ≤ nI (e - i3) ∧ nI (e - i3) ≤ 4) := fun z => hin ⟨(nI_le_iff (a := 1) (by decide) (by omega)).mp z.1, (nI_le_iff (b := 4) (by omega) (by decide)).mp z.2⟩
            simp only [e81_0, e81_1, e81_4, e81_6, e81_7, e81_8, e81_9, e81_10, e81_12, e81_15, e81_18, e81_19, e81_22, e81_23, e81_24, e81_27, e81_28, e81_29, e81_30, e81_30r, e81_31, e81_34, e81_35, e81_36, e81_39, e81_40, e81_43, e81_45, e81_48, e81_49, e81_50, e81_51, e81_51r, e81_52, e81_55, e81_56, e81_57, e81_60, e81_61, e81_64, e81_65, e81_66, e81_69, e81_70, e81_71, e81_73, e81_74, e81_77, e81_78, e81_81, e81_84, e81_85, e81_88, e81_89, e81_92, e81_93, e81_95, e81_97, e81_100, e81_103, e81_105, e81_107, e81_110, e81_112, e81_114, e81_115, e81_116, e81_119, e81_120, e81_123, e81_124, e81_125, e81_127, e81_128, e81_131, e81_133, e81_135, e81_136, e81_136r, e81_137, e81_140, e81_141, e81_142, e81_145, e81_149, e81_152, e81_153, e81_154, e81_155, e81_156, e81_159, e81_162, e81_163, e81_165, e81_168, e81_169, e81_172, e81_173, e81_174, e81_175, e81_178, e81_179, e81_182, e81_185, e81_186, e81_189, e81_190, e81_192, e81_195, e81_197, e81_200, e81_201, e81_202, e81_203, e81_205, e81_208, e81_209, e81_212, e81_215, e81_216, e81_219, e81_221, eq_self, kcat_nil, kcat_int, kcat_long, kcat_ref, kNL_int, kNL_ref, kNL_null, Option.toList_some, Option.toList_none, List.nil_append, List.cons_append, Nat.reduceAdd, Nat.reduceLeDiff, Nat.reduceEqDiff, true_and, and_true, true_or, or_true, false_or, or_false, ite_true, ite_false, my1, e4, sb, y_in, hr', if_false]
            exact bad (fun z => hin ⟨z.1, z.2.1⟩)
      · rw [if_neg hB] at hE ⊢
        exact hE i2 rfl b2.2 _ hP2.1 e2
    · have hA : ¬ prA len tx g i1 := fun z => hgs (by rw [hs]; exact z.2.2)
      rw [if_neg hA] at hE
      rw [if_neg hgs]
      exact hE i1 rfl b1.2 _ hP1.1 e1
  · have hA : ¬ prA len tx g i1 := fun z => hd ⟨z.1, z.2.1⟩
    rw [if_neg hA] at hE
    have nc : ¬ ((0 : Int32) ≤ (if i1 < len then nI (tx i1) else -1) - 48 ∧ (if i1 < len then nI (tx i1) else -1) - 48 ≤ 9) := by
      by_cases hlt : i1 < len
      · rw [if_pos hlt]
        exact fun z => hd ⟨hlt, (bb_sz (tx i1) (by have := hT.2 i1 hlt; omega)).mp z⟩
      · rw [if_neg hlt]; decide
    simp only [e81_0, e81_1, e81_4, e81_6, e81_7, e81_8, e81_9, e81_10, e81_12, e81_15, e81_18, e81_19, e81_22, e81_23, e81_24, e81_27, e81_28, e81_29, e81_30, e81_30r, e81_31, e81_34, e81_35, e81_36, e81_39, e81_40, e81_45, e81_48, e81_49, e81_50, e81_51, e81_51r, e81_52, e81_55, e81_56, e81_57, e81_60, e81_61, e81_64, e81_65, e81_66, e81_69, e81_70, e81_71, e81_74, e81_77, e81_78, e81_81, e81_84, e81_85, e81_88, e81_89, e81_92, e81_93, e81_95, e81_97, e81_100, e81_103, e81_105, e81_107, e81_110, e81_112, e81_114, e81_115, e81_116, e81_119, e81_120, e81_123, e81_124, e81_125, e81_127, e81_128, e81_131, e81_133, e81_135, e81_136, e81_136r, e81_137, e81_140, e81_141, e81_142, e81_145, e81_148, e81_149, e81_152, e81_153, e81_154, e81_155, e81_156, e81_159, e81_162, e81_163, e81_165, e81_168, e81_169, e81_172, e81_173, e81_174, e81_175, e81_178, e81_179, e81_182, e81_183, e81_185, e81_186, e81_189, e81_190, e81_192, e81_195, e81_197, e81_200, e81_201, e81_202, e81_203, e81_205, e81_208, e81_209, e81_212, e81_215, e81_216, e81_219, e81_221, eq_self, kcat_nil, kcat_int, kcat_long, kcat_ref, kNL_int, kNL_ref, kNL_null, Option.toList_some, Option.toList_none, List.nil_append, List.cons_append, Nat.reduceAdd, Nat.reduceLeDiff, Nat.reduceEqDiff, true_and, and_true, true_or, or_true, false_or, or_false, ite_true, ite_false, my1, y_in, nc, if_false]
    exact hE i1 rfl b1.2 _ hP1.1 e1
end PY
