/-! rules, bands, the stack -/
theorem Inv.alt {p q : NR} {N : Nat} (h : Inv p N) (ho : ∀ i, i < 137 → ¬ (20 ≤ i ∧ i < 24) → ¬ (31 ≤ i ∧ i < 49) → q i = p i) (hr : (1 ≤ q 20 ∧ q 20 ≤ 9999) ∧ q 21 ≤ 200 ∧ q 22 ≤ 100 ∧ q 23 ≤ 100) (hb : ∀ i, 31 ≤ i → i < 49 → q i ≤ 1000) : Inv q N := by
  obtain ⟨g1, g2, g3, g4, g5, g6, g7, g8, g9, g10, g11, g12, g13, g14, g15, g16⟩ := h
  refine ⟨fun k hk => by rw [ho k (by omega) (by omega) (by omega)]; exact g1 k hk, fun k hk => by rw [ho _ (by omega) (by omega) (by omega)]; exact g2 k hk, hr.1, hr.2.1, hr.2.2.1, hr.2.2.2, by rw [ho 24 (by omega) (by omega) (by omega)]; exact g7, fun t ht => ?_, fun t ht => by rw [ho _ (by omega) (by omega) (by omega)]; exact g9 t ht, hb, by rw [ho 49 (by omega) (by omega) (by omega)]; exact g11, by rw [ho 50 (by omega) (by omega) (by omega)]; exact g12, by rw [ho 51 (by omega) (by omega) (by omega)]; exact g13, by rw [ho 52 (by omega) (by omega) (by omega)]; exact g14, ?_, fun t ht hs => ?_⟩
  · rw [ho 24 (by omega) (by omega) (by omega)] at ht
    rw [ho _ (by omega) (by omega) (by omega)]
    exact g8 t ht
  · rw [ho 50 (by omega) (by omega) (by omega)]
    unfold totN
    rw [nsum_congr (g := fun k => p (53 + k)) (fun k hk => ho _ (by omega) (by omega) (by omega))]
    exact g15
  · rw [ho 24 (by omega) (by omega) (by omega)] at hs
    rw [ho _ (by omega) (by omega) (by omega)]
    exact g16 t ht hs
theorem nu_le' {p : NR} {i v j c : Nat} (h1 : j = i → v ≤ c) (h2 : j ≠ i → p j ≤ c) : nu p i v j ≤ c := by
  unfold nu
  split
  · rename_i h; exact h1 h
  · rename_i h; exact h2 h
theorem y_changes {i v : Nat} {M : KMem} {p : NR} {Q : Option Value → KMem → Prop} (hR : RowM M p) (hi : i < 137) (hp : p i < 2 ^ 31) (hv : v < 2 ^ 31) : kE 89 0 [.ref 166, .int (nI i), .int (nI v), .null] [] M Q = Q (some (.int (if p i = v then 0 else 1))) (mset M 167 i (nI v)) := by
  have z : (nI (p i) = nI v) ↔ p i = v := nI_eq_iff hp hv
  simp only [e89_0, e89_1, e89_4, e89_5, e89_6, e89_7, e89_10, e89_11, e89_14, e89_15, e89_16, e89_17, e89_20, e89_21, e89_22, e89_23, e89_24, eq_self, kcat_nil, kcat_int, kcat_long, kcat_ref, kNL_int, kNL_ref, kNL_null, Option.toList_some, Option.toList_none, List.nil_append, List.cons_append, Nat.reduceAdd, Nat.reduceLeDiff, Nat.reduceEqDiff, true_and, and_true, true_or, or_true, false_or, or_false, ite_true, ite_false, my1, my2, my7, my12, kin_nI hi (by decide), clN (show i < 2 ^ 31 by omega), hR i hi, z]
  by_cases h : p i = v
  · rw [if_neg (fun q => q h), if_pos h]
  · rw [if_pos h, if_neg h]
theorem op_setRules (x1 x2 x3 x4 : Int32) : OpOK 40 90 [.int x1, .int x2, .int x3, .int x4] := by
  intro S N hN hI
  have n10 : ¬ (1 : Int32) = 0 := by decide
  by_cases hall : (1 ≤ x1 ∧ x1 ≤ 9999) ∧ (0 ≤ x2 ∧ x2 ≤ 200) ∧ (0 ≤ x3 ∧ x3 ≤ 100) ∧ (0 ≤ x4 ∧ x4 ≤ 100)
  · obtain ⟨c1, c2, c3, c4⟩ := hall
    obtain ⟨c, a1, a2, rfl⟩ := (rng x1 1 9999 (by decide) (by decide)).resolve_left (fun q => q c1)
    obtain ⟨b, _, b2, rfl⟩ := (rng x2 0 200 (by decide) (by decide)).resolve_left (fun q => q c2)
    obtain ⟨e, _, e2, rfl⟩ := (rng x3 0 100 (by decide) (by decide)).resolve_left (fun q => q c3)
    obtain ⟨g, _, g2, rfl⟩ := (rng x4 0 100 (by decide) (by decide)).resolve_left (fun q => q c4)
    have r20 := hI.1.2.2.1
    have r21 := hI.1.2.2.2.1
    have r22 := hI.1.2.2.2.2.1
    have r23 := hI.1.2.2.2.2.2.1
    obtain ⟨q, hq⟩ : ∃ q, q = nu (nu (nu (nu S.1 20 c) 21 b) 22 e) 23 g := ⟨_, rfl⟩
    have hIq : Inv q (N + 1) := by
      rw [hq]
      refine hI.1.mono.alt (fun i _ h1 _ => by rw [nu_ne (by omega), nu_ne (by omega), nu_ne (by omega), nu_ne (by omega)]) ⟨?_, ?_, ?_, ?_⟩ (fun i h1 h2 => by rw [nu_ne (by omega), nu_ne (by omega), nu_ne (by omega), nu_ne (by omega)]; exact hI.1.band i h1 h2)
      · rw [nu_ne (by omega), nu_ne (by omega), nu_ne (by omega), nu_eq]; exact ⟨a1, a2⟩
      · rw [nu_ne (by omega), nu_ne (by omega), nu_eq]; exact b2
      · rw [nu_ne (by omega), nu_eq]; exact e2
      · rw [nu_eq]; exact g2
    refine ⟨if S.1 20 = c ∧ S.1 21 = b ∧ S.1 22 = e ∧ S.1 23 = g then 0 else 1, (q, (sav S).2), hI.sav.cur hIq, fun M Q hX hQ => ?_, fun M Q hY hQ => ?_⟩
    · show kE 40 0 [.ref 0, .int (nI c), .int (nI b), .int (nI e), .int (nI g), .null] [] M Q
      simp only [e40_0, e40_1, e40_2, e40_5, e40_8, e40_11, e40_12, e40_13, e40_16, e40_19, e40_22, e40_23, e40_24, e40_26, e40_29, e40_32, e40_34, e40_35, e40_37, e40_40, e40_43, e40_44, e40_45, e40_46, e40_50, e40_53, e40_56, e40_57, e40_60, e40_61, e40_64, e40_67, e40_68, e40_71, e40_72, e40_75, e40_78, e40_79, e40_82, e40_83, e40_86, e40_89, e40_91, e40_94, e40_95, e40_98, e40_99, e40_101, e40_102, e40_105, e40_106, e40_109, e40_110, e40_113, e40_114, e40_117, e40_118, e40_121, e40_122, e40_125, e40_126, e40_129, e40_131, e40_134, e40_136, e40_139, e40_140, e40_143, e40_144, eq_self, kcat_nil, kcat_int, kcat_long, kcat_ref, kNL_int, kNL_ref, kNL_null, Option.toList_some, Option.toList_none, List.nil_append, List.cons_append, Nat.reduceAdd, Nat.reduceLeDiff, Nat.reduceEqDiff, true_and, and_true, true_or, or_true, false_or, or_false, ite_true, ite_false, x_isIn, c1, c2, c3, c4, and_self, n10, not_false_eq_true, tp5]
      refine x_saveState hX hI.1.f49 (fun M1 hX1 hF _ _ _ => ?_)
      have hR := hX1.1
      have f1 : M1 1 6 = nI (S.1 20) := hR.f20
      have f2 : M1 1 7 = nI (S.1 21) := hR.f21
      have f3 : M1 1 8 = nI (S.1 22) := hR.f22
      have f4 : M1 1 9 = nI (S.1 23) := hR.f23
      have z1 : (nI (S.1 20) = nI c) ↔ S.1 20 = c := nI_eq_iff (by omega) (by omega)
      have z2 : (nI (S.1 21) = nI b) ↔ S.1 21 = b := nI_eq_iff (by omega) (by omega)
      have z3 : (nI (S.1 22) = nI e) ↔ S.1 22 = e := nI_eq_iff (by omega) (by omega)
      have z4 : (nI (S.1 23) = nI g) ↔ S.1 23 = g := nI_eq_iff (by omega) (by omega)
      have fin : ∀ f : Int32, (f = 0 ∨ f = 1) → (if f = 0 then (1 : Int32) else 0) = (if S.1 20 = c ∧ S.1 21 = b ∧ S.1 22 = e ∧ S.1 23 = g then 0 else 1) → kE 40 99 [.ref 0, .int (nI c), .int (nI b), .int (nI e), .int (nI g), .null] [.int f] M1 Q := by
        intro f hf he
        have s1 := hR.set 20 (by decide) (by unfold isAp; omega) (by decide) (c := 1) (j := 6) rfl rfl (nI c)
        have s2 := s1.set 21 (by decide) (by unfold isAp; omega) (by decide) (c := 1) (j := 7) rfl rfl (nI b)
        have s3 := s2.set 22 (by decide) (by unfold isAp; omega) (by decide) (c := 1) (j := 8) rfl rfl (nI e)
        have s4 := s3.set 23 (by decide) (by unfold isAp; omega) (by decide) (c := 1) (j := 9) rfl rfl (nI g)
        rw [nr_upd, nr_upd, nr_upd, nr_upd] at s4
        have hO : Off 1 M1 (mset (mset (mset (mset M1 1 6 (nI c)) 1 7 (nI b)) 1 8 (nI e)) 1 9 (nI g)) := (((Off.rfl'.mset (by decide) (by decide)).mset (by decide) (by decide)).mset (by decide) (by decide)).mset (by decide) (by decide)
        have hq' := hQ _ (hX1.cur hO (by rw [hq]; exact s4)) (fx1 hF hO)
        simp only [e40_0, e40_1, e40_2, e40_5, e40_8, e40_11, e40_12, e40_13, e40_16, e40_19, e40_22, e40_23, e40_24, e40_26, e40_29, e40_32, e40_34, e40_35, e40_37, e40_40, e40_43, e40_44, e40_45, e40_46, e40_49, e40_50, e40_53, e40_56, e40_57, e40_60, e40_61, e40_64, e40_67, e40_68, e40_71, e40_72, e40_75, e40_78, e40_79, e40_82, e40_83, e40_86, e40_89, e40_91, e40_94, e40_95, e40_98, e40_99, e40_101, e40_102, e40_105, e40_106, e40_109, e40_110, e40_113, e40_114, e40_117, e40_118, e40_121, e40_122, e40_125, e40_126, e40_129, e40_131, e40_134, e40_136, e40_139, e40_140, e40_143, e40_144, eq_self, kcat_nil, kcat_int, kcat_long, kcat_ref, kNL_int, kNL_ref, kNL_null, Option.toList_some, Option.toList_none, List.nil_append, List.cons_append, Nat.reduceAdd, Nat.reduceLeDiff, Nat.reduceEqDiff, true_and, and_true, true_or, or_true, false_or, or_false, ite_true, ite_false, tp1, tp5, tp18]
        rcases hf with rfl | rfl
        · rw [if_pos rfl]
          rw [← he, if_pos rfl] at hq'
          exact hq'
        · rw [if_neg n10]
          rw [← he, if_neg n10] at hq'
          exact hq'
      simp only [e40_0, e40_1, e40_2, e40_5, e40_8, e40_11, e40_12, e40_13, e40_16, e40_19, e40_22, e40_23, e40_24, e40_26, e40_29, e40_32, e40_34, e40_35, e40_37, e40_40, e40_43, e40_44, e40_45, e40_46, e40_49, e40_50, e40_53, e40_56, e40_57, e40_60, e40_61, e40_64, e40_67, e40_68, e40_71, e40_72, e40_75, e40_78, e40_79, e40_82, e40_83, e40_86, e40_89, e40_91, e40_94, e40_95, e40_98, e40_101, e40_102, e40_105, e40_106, e40_109, e40_110, e40_113, e40_114, e40_117, e40_118, e40_121, e40_122, e40_125, e40_126, e40_129, e40_131, e40_134, e40_136, e40_139, e40_140, e40_143, e40_144, eq_self, kcat_nil, kcat_int, kcat_long, kcat_ref, kNL_int, kNL_ref, kNL_null, Option.toList_some, Option.toList_none, List.nil_append, List.cons_append, Nat.reduceAdd, Nat.reduceLeDiff, Nat.reduceEqDiff, true_and, and_true, true_or, or_true, false_or, or_false, ite_true, ite_false, tp1, tp5, tp18, f1, f2, f3, f4, z1, z2, z3, z4]
      by_cases h1 : S.1 20 = c
      · rw [if_neg (fun z => z h1)]
        by_cases h2 : S.1 21 = b
        · rw [if_neg (fun z => z h2)]
          by_cases h3 : S.1 22 = e
          · rw [if_neg (fun z => z h3)]
            by_cases h4 : S.1 23 = g
            · rw [if_neg (fun z => z h4)]
              exact fin 1 (Or.inr rfl) (by rw [if_neg n10, if_pos ⟨h1, h2, h3, h4⟩])
            · rw [if_pos h4]
              exact fin 0 (Or.inl rfl) (by rw [if_pos rfl, if_neg (fun z => h4 z.2.2.2)])
          · rw [if_pos h3]
            exact fin 0 (Or.inl rfl) (by rw [if_pos rfl, if_neg (fun z => h3 z.2.2.1)])
        · rw [if_pos h2]
          exact fin 0 (Or.inl rfl) (by rw [if_pos rfl, if_neg (fun z => h2 z.2.1)])
      · rw [if_pos h1]
        exact fin 0 (Or.inl rfl) (by rw [if_pos rfl, if_neg (fun z => h1 z.1)])
    · show kE 90 0 [.ref 166, .int (nI c), .int (nI b), .int (nI e), .int (nI g), .null] [] M Q
      simp only [e90_0, e90_1, e90_2, e90_5, e90_8, e90_11, e90_12, e90_13, e90_16, e90_19, e90_22, e90_23, e90_24, e90_26, e90_29, e90_32, e90_34, e90_35, e90_37, e90_40, e90_43, e90_44, e90_45, e90_46, e90_50, e90_52, e90_53, e90_56, e90_57, e90_59, e90_60, e90_63, e90_64, e90_65, e90_67, e90_68, e90_71, e90_72, e90_73, e90_75, e90_77, e90_80, e90_81, e90_83, e90_85, e90_88, e90_89, e90_92, e90_93, eq_self, kcat_nil, kcat_int, kcat_long, kcat_ref, kNL_int, kNL_ref, kNL_null, Option.toList_some, Option.toList_none, List.nil_append, List.cons_append, Nat.reduceAdd, Nat.reduceLeDiff, Nat.reduceEqDiff, true_and, and_true, true_or, or_true, false_or, or_false, ite_true, ite_false, y_in, c1, c2, c3, c4, and_self, n10, not_false_eq_true, my1]
      refine y_notes hY (fun M1 hY1 hF _ _ _ => ?_)
      have hR := hY1.1
      have s1 := hR.set 20 c
      have s2 := s1.set 21 b
      have s3 := s2.set 22 e
      have s4 := s3.set 23 g
      have hO : OffY M1 (mset (mset (mset (mset M1 167 20 (nI c)) 167 21 (nI b)) 167 22 (nI e)) 167 23 (nI g)) := (((OffY.rfl'.set _ _).set _ _).set _ _).set _ _
      have hq' := hQ _ (hY1.cur hO (by rw [hq]; exact s4)) (hF.trans hO.fy)
      have k1 : nu S.1 20 c 21 = S.1 21 := nu_ne (by decide)
      have k2 : nu (nu S.1 20 c) 21 b 22 = S.1 22 := by rw [nu_ne (by decide), nu_ne (by decide)]
      have k3 : nu (nu (nu S.1 20 c) 21 b) 22 e 23 = S.1 23 := by rw [nu_ne (by decide), nu_ne (by decide), nu_ne (by decide)]
      have hS1 : (sav S).1 = S.1 := rfl
      simp only [e90_0, e90_1, e90_2, e90_5, e90_8, e90_11, e90_12, e90_13, e90_16, e90_19, e90_22, e90_23, e90_24, e90_26, e90_29, e90_32, e90_34, e90_35, e90_37, e90_40, e90_43, e90_44, e90_45, e90_46, e90_49, e90_50, e90_52, e90_53, e90_56, e90_57, e90_59, e90_60, e90_63, e90_64, e90_65, e90_67, e90_68, e90_71, e90_72, e90_73, e90_75, e90_77, e90_80, e90_81, e90_83, e90_85, e90_88, e90_89, e90_92, e90_93, eq_self, kcat_nil, kcat_int, kcat_long, kcat_ref, kNL_int, kNL_ref, kNL_null, Option.toList_some, Option.toList_none, List.nil_append, List.cons_append, Nat.reduceAdd, Nat.reduceLeDiff, Nat.reduceEqDiff, true_and, and_true, true_or, or_true, false_or, or_false, ite_true, ite_false, my1, li20, li21, li22, li23]
      rw [y_changes (p := S.1) hR (by decide) (by omega) (by omega)]
      simp only [e90_0, e90_1, e90_2, e90_5, e90_8, e90_11, e90_12, e90_13, e90_16, e90_19, e90_22, e90_23, e90_24, e90_26, e90_29, e90_32, e90_34, e90_35, e90_37, e90_40, e90_43, e90_44, e90_45, e90_46, e90_49, e90_50, e90_52, e90_53, e90_56, e90_57, e90_59, e90_60, e90_63, e90_64, e90_65, e90_67, e90_68, e90_71, e90_72, e90_73, e90_75, e90_77, e90_80, e90_81, e90_83, e90_85, e90_88, e90_89, e90_92, e90_93, eq_self, kcat_nil, kcat_int, kcat_long, kcat_ref, kNL_int, kNL_ref, kNL_null, Option.toList_some, Option.toList_none, List.nil_append, List.cons_append, Nat.reduceAdd, Nat.reduceLeDiff, Nat.reduceEqDiff, true_and, and_true, true_or, or_true, false_or, or_false, ite_true, ite_false, my1, li20, li21, li22, li23]
      rw [y_changes s1 (by decide) (by rw [hS1, k1]; omega) (by omega), hS1, k1]
      simp only [e90_0, e90_1, e90_2, e90_5, e90_8, e90_11, e90_12, e90_13, e90_16, e90_19, e90_22, e90_23, e90_24, e90_26, e90_29, e90_32, e90_34, e90_35, e90_37, e90_40, e90_43, e90_44, e90_45, e90_46, e90_49, e90_50, e90_52, e90_53, e90_56, e90_57, e90_59, e90_60, e90_63, e90_64, e90_65, e90_67, e90_68, e90_71, e90_72, e90_73, e90_75, e90_77, e90_80, e90_81, e90_83, e90_85, e90_88, e90_89, e90_92, e90_93, eq_self, kcat_nil, kcat_int, kcat_long, kcat_ref, kNL_int, kNL_ref, kNL_null, Option.toList_some, Option.toList_none, List.nil_append, List.cons_append, Nat.reduceAdd, Nat.reduceLeDiff, Nat.reduceEqDiff, true_and, and_true, true_or, or_true, false_or, or_false, ite_true, ite_false, my1, li20, li21, li22, li23]
      rw [y_changes s2 (by decide) (by rw [hS1, k2]; omega) (by omega), hS1, k2]
      simp only [e90_0, e90_1, e90_2, e90_5, e90_8, e90_11, e90_12, e90_13, e90_16, e90_19, e90_22, e90_23, e90_24, e90_26, e90_29, e90_32, e90_34, e90_35, e90_37, e90_40, e90_43, e90_44, e90_45, e90_46, e90_49, e90_50, e90_52, e90_53, e90_56, e90_57, e90_59, e90_60, e90_63, e90_64, e90_65, e90_67, e90_68, e90_71, e90_72, e90_73, e90_75, e90_77, e90_80, e90_81, e90_83, e90_85, e90_88, e90_89, e90_92, e90_93, eq_self, kcat_nil, kcat_int, kcat_long, kcat_ref, kNL_int, kNL_ref, kNL_null, Option.toList_some, Option.toList_none, List.nil_append, List.cons_append, Nat.reduceAdd, Nat.reduceLeDiff, Nat.reduceEqDiff, true_and, and_true, true_or, or_true, false_or, or_false, ite_true, ite_false, my1, li20, li21, li22, li23]
      rw [y_changes s3 (by decide) (by rw [hS1, k3]; omega) (by omega), hS1, k3]
      simp only [e90_0, e90_1, e90_2, e90_5, e90_8, e90_11, e90_12, e90_13, e90_16, e90_19, e90_22, e90_23, e90_24, e90_26, e90_29, e90_32, e90_34, e90_35, e90_37, e90_40, e90_43, e90_44, e90_45, e90_46, e90_49, e90_50, e90_52, e90_53, e90_56, e90_57, e90_59, e90_60, e90_63, e90_64, e90_65, e90_67, e90_68, e90_71, e90_72, e90_73, e90_75, e90_77, e90_80, e90_81, e90_83, e90_85, e90_88, e90_89, e90_92, e90_93, eq_self, kcat_nil, kcat_int, kcat_long, kcat_ref, kNL_int, kNL_ref, kNL_null, Option.toList_some, Option.toList_none, List.nil_append, List.cons_append, Nat.reduceAdd, Nat.reduceLeDiff, Nat.reduceEqDiff, true_and, and_true, true_or, or_true, false_or, or_false, ite_true, ite_false]
      by_cases h1 : S.1 20 = c <;> by_cases h2 : S.1 21 = b <;> by_cases h3 : S.1 22 = e <;> by_cases h4 : S.1 23 = g <;> simp only [h1, h2, h3, h4, and_self, and_true, and_false, if_true, if_false] at hq' ⊢ <;> exact hq'
  · have bad : ∀ {A B C D : Prop} [Decidable A] [Decidable B] [Decidable C] [Decidable D] {P R : Prop}, ¬ (A ∧ B ∧ C ∧ D) → ((if A then (if B then (if C then (if D then P else R) else R) else R) else R) ↔ R) := by
      intro A B C D _ _ _ _ P R h
      by_cases hA : A
      · rw [if_pos hA]
        by_cases hB : B
        · rw [if_pos hB]
          by_cases hC : C
          · rw [if_pos hC]
            by_cases hD : D
            · exact absurd ⟨hA, hB, hC, hD⟩ h
            · rw [if_neg hD]
          · rw [if_neg hC]
        · rw [if_neg hB]
      · rw [if_neg hA]
    refine ⟨-1, S, hI.mono, fun M Q hX hQ => ?_, fun M Q hY hQ => ?_⟩
    · show kE 40 0 [.ref 0, .int x1, .int x2, .int x3, .int x4, .null] [] M Q
      simp only [e40_0, e40_1, e40_2, e40_5, e40_8, e40_11, e40_12, e40_13, e40_16, e40_19, e40_22, e40_23, e40_24, e40_26, e40_29, e40_32, e40_34, e40_35, e40_37, e40_40, e40_43, e40_44, e40_46, e40_49, e40_50, e40_53, e40_56, e40_57, e40_60, e40_61, e40_64, e40_67, e40_68, e40_71, e40_72, e40_75, e40_78, e40_79, e40_82, e40_83, e40_86, e40_89, e40_91, e40_94, e40_95, e40_98, e40_99, e40_101, e40_102, e40_105, e40_106, e40_109, e40_110, e40_113, e40_114, e40_117, e40_118, e40_121, e40_122, e40_125, e40_126, e40_129, e40_131, e40_134, e40_136, e40_139, e40_140, e40_143, e40_144, eq_self, kcat_nil, kcat_int, kcat_long, kcat_ref, kNL_int, kNL_ref, kNL_null, Option.toList_some, Option.toList_none, List.nil_append, List.cons_append, Nat.reduceAdd, Nat.reduceLeDiff, Nat.reduceEqDiff, true_and, and_true, true_or, or_true, false_or, or_false, ite_true, ite_false, x_isIn, n10, not_false_eq_true, not_true_eq_false, if_true, if_false]
      exact (bad hall).mpr (hQ M hX Fx.rfl')
    · show kE 90 0 [.ref 166, .int x1, .int x2, .int x3, .int x4, .null] [] M Q
      simp only [e90_0, e90_1, e90_2, e90_5, e90_8, e90_11, e90_12, e90_13, e90_16, e90_19, e90_22, e90_23, e90_24, e90_26, e90_29, e90_32, e90_34, e90_35, e90_37, e90_40, e90_43, e90_44, e90_46, e90_49, e90_50, e90_52, e90_53, e90_56, e90_57, e90_59, e90_60, e90_63, e90_64, e90_65, e90_67, e90_68, e90_71, e90_72, e90_73, e90_75, e90_77, e90_80, e90_81, e90_83, e90_85, e90_88, e90_89, e90_92, e90_93, eq_self, kcat_nil, kcat_int, kcat_long, kcat_ref, kNL_int, kNL_ref, kNL_null, Option.toList_some, Option.toList_none, List.nil_append, List.cons_append, Nat.reduceAdd, Nat.reduceLeDiff, Nat.reduceEqDiff, true_and, and_true, true_or, or_true, false_or, or_false, ite_true, ite_false, y_in, n10, not_false_eq_true, not_true_eq_false, if_true, if_false]
      exact (bad hall).mpr (hQ M hY Fy.rfl')
theorem la_band : ∀ a, a < 10 → 1 ≤ a → la (31 + 2 * (a - 1)) = 4 ∧ lb (31 + 2 * (a - 1)) = a ∧ la (32 + 2 * (a - 1)) = 5 ∧ lb (32 + 2 * (a - 1)) = a := by decide +kernel
theorem op_setBand (x1 x2 x3 : Int32) : OpOK 41 91 [.int x1, .int x2, .int x3] := by
  intro S N hN hI
  have n10 : ¬ (1 : Int32) = 0 := by decide
  by_cases hall : (1 ≤ x1 ∧ x1 ≤ 9) ∧ (0 ≤ x2 ∧ x2 ≤ 1000) ∧ (x2 ≤ x3 ∧ x3 ≤ 1000)
  · obtain ⟨c1, c2, c3⟩ := hall
    obtain ⟨a, a1, a2, rfl⟩ := (rng x1 1 9 (by decide) (by decide)).resolve_left (fun q => q c1)
    obtain ⟨b, _, b2, rfl⟩ := (rng x2 0 1000 (by decide) (by decide)).resolve_left (fun q => q c2)
    obtain ⟨e, e1, e2, rfl⟩ := (rng x3 b 1000 (by decide) (by omega)).resolve_left (fun q => q c3)
    obtain ⟨l1, l2, l3, l4⟩ := la_band a (by omega) a1
    obtain ⟨i, hi⟩ : ∃ i, i = 31 + 2 * (a - 1) := ⟨_, rfl⟩
    have hi2 : 32 + 2 * (a - 1) = i + 1 := by omega
    rw [← hi] at l1 l2
    rw [hi2] at l3 l4
    have r1 := hI.1.band i (by omega) (by omega)
    have r2 := hI.1.band (i + 1) (by omega) (by omega)
    obtain ⟨q, hq⟩ : ∃ q, q = nu (nu S.1 i b) (i + 1) e := ⟨_, rfl⟩
    have hIq : Inv q (N + 1) := by
      rw [hq]
      refine hI.1.mono.alt (fun j _ _ h1 => by rw [nu_ne (by omega), nu_ne (by omega)]) ⟨?_, ?_, ?_, ?_⟩ (fun j h1 h2 => ?_)
      · rw [nu_ne (by omega), nu_ne (by omega)]; exact hI.1.2.2.1
      · rw [nu_ne (by omega), nu_ne (by omega)]; exact hI.1.2.2.2.1
      · rw [nu_ne (by omega), nu_ne (by omega)]; exact hI.1.2.2.2.2.1
      · rw [nu_ne (by omega), nu_ne (by omega)]; exact hI.1.2.2.2.2.2.1
      · exact nu_le' (fun h => e2) (fun h => nu_le' (fun h => b2) (fun h => hI.1.band j h1 h2))
    refine ⟨if S.1 i = b ∧ S.1 (i + 1) = e then 0 else 1, (q, (sav S).2), hI.sav.cur hIq, fun M Q hX hQ => ?_, fun M Q hY hQ => ?_⟩
    · show kE 41 0 [.ref 0, .int (nI a), .int (nI b), .int (nI e), .null] [] M Q
      simp only [e41_0, e41_1, e41_2, e41_4, e41_7, e41_10, e41_11, e41_12, e41_15, e41_18, e41_21, e41_22, e41_23, e41_26, e41_29, e41_32, e41_33, e41_34, e41_35, e41_39, e41_42, e41_45, e41_46, e41_47, e41_48, e41_51, e41_52, e41_55, e41_58, e41_59, e41_60, e41_61, e41_64, e41_65, e41_68, e41_69, e41_71, e41_72, e41_75, e41_78, e41_79, e41_80, e41_81, e41_82, e41_85, e41_88, e41_89, e41_90, e41_91, e41_93, e41_96, e41_97, e41_100, e41_101, eq_self, kcat_nil, kcat_int, kcat_long, kcat_ref, kNL_int, kNL_ref, kNL_null, Option.toList_some, Option.toList_none, List.nil_append, List.cons_append, Nat.reduceAdd, Nat.reduceLeDiff, Nat.reduceEqDiff, true_and, and_true, true_or, or_true, false_or, or_false, ite_true, ite_false, x_isIn, c1, c2, c3, and_self, n10, not_false_eq_true, tp5]
      refine x_saveState hX hI.1.f49 (fun M1 hX1 hF _ _ _ => ?_)
      have hR := hX1.1
      have f1 : M1 5 a = nI (S.1 i) := by
        have : M1 5 a = nI (S.1 (31 + 2 * (a - 1))) := hR.lo a1 (by omega)
        rw [this, ← hi]
      have f2 : M1 6 a = nI (S.1 (i + 1)) := by
        have : M1 6 a = nI (S.1 (32 + 2 * (a - 1))) := hR.hi a1 (by omega)
        rw [this, hi2]
      have z1 : (nI (S.1 i) = nI b) ↔ S.1 i = b := nI_eq_iff (by omega) (by omega)
      have z2 : (nI (S.1 (i + 1)) = nI e) ↔ S.1 (i + 1) = e := nI_eq_iff (by omega) (by omega)
      have fin : ∀ f : Int32, (f = 0 ∨ f = 1) → (if f = 0 then (1 : Int32) else 0) = (if S.1 i = b ∧ S.1 (i + 1) = e then 0 else 1) → kE 41 69 [.ref 0, .int (nI a), .int (nI b), .int (nI e), .null] [.int f] M1 Q := by
        intro f hf he
        have s1 := hR.set i (by omega) (by unfold isAp; omega) (by omega) (c := 5) (j := a) (by rw [l1]) l2.symm (nI b)
        have s2 := s1.set (i + 1) (by omega) (by unfold isAp; omega) (by omega) (c := 6) (j := a) (by rw [l3]) l4.symm (nI e)
        rw [nr_upd, nr_upd] at s2
        have hO : Off 1 M1 (mset (mset M1 5 a (nI b)) 6 a (nI e)) := (Off.rfl'.mset (by decide) (by decide)).mset (by decide) (by decide)
        have hq' := hQ _ (hX1.cur hO (by rw [hq]; exact s2)) (fx1 hF hO)
        simp only [e41_0, e41_1, e41_2, e41_4, e41_7, e41_10, e41_11, e41_12, e41_15, e41_18, e41_21, e41_22, e41_23, e41_26, e41_29, e41_32, e41_33, e41_34, e41_35, e41_38, e41_39, e41_42, e41_45, e41_46, e41_47, e41_48, e41_51, e41_52, e41_55, e41_58, e41_59, e41_60, e41_61, e41_64, e41_65, e41_68, e41_69, e41_71, e41_72, e41_75, e41_78, e41_79, e41_80, e41_81, e41_82, e41_85, e41_88, e41_89, e41_90, e41_91, e41_93, e41_96, e41_97, e41_100, e41_101, eq_self, kcat_nil, kcat_int, kcat_long, kcat_ref, kNL_int, kNL_ref, kNL_null, Option.toList_some, Option.toList_none, List.nil_append, List.cons_append, Nat.reduceAdd, Nat.reduceLeDiff, Nat.reduceEqDiff, true_and, and_true, true_or, or_true, false_or, or_false, ite_true, ite_false, tp1, tp5, tp18, tp23, tp24, tp28, tp29, tp33, tp34, kin_nI (show a < 10 by omega) (by decide), clN (show a < 2 ^ 31 by omega)]
        rcases hf with rfl | rfl
        · rw [if_pos rfl]
          rw [← he, if_pos rfl] at hq'
          exact hq'
        · rw [if_neg n10]
          rw [← he, if_neg n10] at hq'
          exact hq'
      simp only [e41_0, e41_1, e41_2, e41_4, e41_7, e41_10, e41_11, e41_12, e41_15, e41_18, e41_21, e41_22, e41_23, e41_26, e41_29, e41_32, e41_33, e41_34, e41_35, e41_38, e41_39, e41_42, e41_45, e41_46, e41_47, e41_48, e41_51, e41_52, e41_55, e41_58, e41_59, e41_60, e41_61, e41_64, e41_65, e41_68, e41_71, e41_72, e41_75, e41_78, e41_79, e41_80, e41_81, e41_82, e41_85, e41_88, e41_89, e41_90, e41_91, e41_93, e41_96, e41_97, e41_100, e41_101, eq_self, kcat_nil, kcat_int, kcat_long, kcat_ref, kNL_int, kNL_ref, kNL_null, Option.toList_some, Option.toList_none, List.nil_append, List.cons_append, Nat.reduceAdd, Nat.reduceLeDiff, Nat.reduceEqDiff, true_and, and_true, true_or, or_true, false_or, or_false, ite_true, ite_false, tp1, tp5, tp18, tp23, tp24, tp28, tp29, tp33, tp34, kin_nI (show a < 10 by omega) (by decide), clN (show a < 2 ^ 31 by omega), f1, f2, z1, z2]
      by_cases h1 : S.1 i = b
      · rw [if_neg (fun z => z h1)]
        by_cases h2 : S.1 (i + 1) = e
        · rw [if_neg (fun z => z h2)]
          exact fin 1 (Or.inr rfl) (by rw [if_neg n10, if_pos ⟨h1, h2⟩])
        · rw [if_pos h2]
          exact fin 0 (Or.inl rfl) (by rw [if_pos rfl, if_neg (fun z => h2 z.2)])
      · rw [if_pos h1]
        exact fin 0 (Or.inl rfl) (by rw [if_pos rfl, if_neg (fun z => h1 z.1)])
    · show kE 91 0 [.ref 166, .int (nI a), .int (nI b), .int (nI e), .null] [] M Q
      simp only [e91_0, e91_1, e91_2, e91_4, e91_7, e91_10, e91_11, e91_12, e91_15, e91_18, e91_21, e91_22, e91_23, e91_26, e91_29, e91_32, e91_33, e91_34, e91_35, e91_39, e91_41, e91_42, e91_43, e91_44, e91_45, e91_46, e91_47, e91_48, e91_51, e91_52, e91_54, e91_55, e91_56, e91_57, e91_58, e91_59, e91_60, e91_61, e91_64, e91_65, e91_67, e91_69, e91_72, e91_73, e91_76, e91_77, eq_self, kcat_nil, kcat_int, kcat_long, kcat_ref, kNL_int, kNL_ref, kNL_null, Option.toList_some, Option.toList_none, List.nil_append, List.cons_append, Nat.reduceAdd, Nat.reduceLeDiff, Nat.reduceEqDiff, true_and, and_true, true_or, or_true, false_or, or_false, ite_true, ite_false, y_in, c1, c2, c3, and_self, n10, not_false_eq_true, my1]
      refine y_notes hY (fun M1 hY1 hF _ _ _ => ?_)
      have hR := hY1.1
      have s1 := hR.set i b
      have s2 := s1.set (i + 1) e
      have hO : OffY M1 (mset (mset M1 167 i (nI b)) 167 (i + 1) (nI e)) := (OffY.rfl'.set _ _).set _ _
      have hq' := hQ _ (hY1.cur hO (by rw [hq]; exact s2)) (hF.trans hO.fy)
      have k1 : nu S.1 i b (i + 1) = S.1 (i + 1) := nu_ne (by omega)
      have hS1 : (sav S).1 = S.1 := rfl
      have ei : nI (31 + 2 * a) - nI 2 = nI i := by
        rw [pk_sub (by omega)]
        exact congrArg nI (by omega)
      have ei2 : nI (31 + 2 * a) - 1 = nI (i + 1) := by
        rw [show (1 : Int32) = nI 1 from rfl, pk_sub (by omega)]
        exact congrArg nI (by omega)
      simp only [e91_0, e91_1, e91_2, e91_4, e91_7, e91_10, e91_11, e91_12, e91_15, e91_18, e91_21, e91_22, e91_23, e91_26, e91_29, e91_32, e91_33, e91_34, e91_35, e91_38, e91_39, e91_41, e91_42, e91_43, e91_44, e91_45, e91_46, e91_47, e91_48, e91_51, e91_52, e91_54, e91_55, e91_56, e91_57, e91_58, e91_59, e91_60, e91_61, e91_64, e91_65, e91_67, e91_69, e91_72, e91_73, e91_76, e91_77, eq_self, kcat_nil, kcat_int, kcat_long, kcat_ref, kNL_int, kNL_ref, kNL_null, Option.toList_some, Option.toList_none, List.nil_append, List.cons_append, Nat.reduceAdd, Nat.reduceLeDiff, Nat.reduceEqDiff, true_and, and_true, true_or, or_true, false_or, or_false, ite_true, ite_false, my1, li31, li2, pk_mul, nI_add, ei]
      rw [y_changes (p := S.1) hR (by omega) (by omega) (by omega)]
      simp only [e91_0, e91_1, e91_2, e91_4, e91_7, e91_10, e91_11, e91_12, e91_15, e91_18, e91_21, e91_22, e91_23, e91_26, e91_29, e91_32, e91_33, e91_34, e91_35, e91_38, e91_39, e91_41, e91_42, e91_43, e91_44, e91_45, e91_46, e91_47, e91_48, e91_51, e91_52, e91_54, e91_55, e91_56, e91_57, e91_58, e91_59, e91_60, e91_61, e91_64, e91_65, e91_67, e91_69, e91_72, e91_73, e91_76, e91_77, eq_self, kcat_nil, kcat_int, kcat_long, kcat_ref, kNL_int, kNL_ref, kNL_null, Option.toList_some, Option.toList_none, List.nil_append, List.cons_append, Nat.reduceAdd, Nat.reduceLeDiff, Nat.reduceEqDiff, true_and, and_true, true_or, or_true, false_or, or_false, ite_true, ite_false, my1, li31, li2, pk_mul, nI_add, ei2]
      rw [y_changes s1 (by omega) (by rw [hS1, k1]; omega) (by omega), hS1, k1]
      simp only [e91_0, e91_1, e91_2, e91_4, e91_7, e91_10, e91_11, e91_12, e91_15, e91_18, e91_21, e91_22, e91_23, e91_26, e91_29, e91_32, e91_33, e91_34, e91_35, e91_38, e91_39, e91_41, e91_42, e91_43, e91_44, e91_45, e91_46, e91_47, e91_48, e91_51, e91_52, e91_54, e91_55, e91_56, e91_57, e91_58, e91_59, e91_60, e91_61, e91_64, e91_65, e91_67, e91_69, e91_72, e91_73, e91_76, e91_77, eq_self, kcat_nil, kcat_int, kcat_long, kcat_ref, kNL_int, kNL_ref, kNL_null, Option.toList_some, Option.toList_none, List.nil_append, List.cons_append, Nat.reduceAdd, Nat.reduceLeDiff, Nat.reduceEqDiff, true_and, and_true, true_or, or_true, false_or, or_false, ite_true, ite_false]
      by_cases h1 : S.1 i = b <;> by_cases h2 : S.1 (i + 1) = e <;> simp only [h1, h2, and_self, and_true, and_false, if_true, if_false] at hq' ⊢ <;> exact hq'
  · have bad : ∀ {A B C : Prop} [Decidable A] [Decidable B] [Decidable C] {P R : Prop}, ¬ (A ∧ B ∧ C) → ((if A then (if B then (if C then P else R) else R) else R) ↔ R) := by
      intro A B C _ _ _ P R h
      by_cases hA : A
      · rw [if_pos hA]
        by_cases hB : B
        · rw [if_pos hB]
          by_cases hC : C
          · exact absurd ⟨hA, hB, hC⟩ h
          · rw [if_neg hC]
        · rw [if_neg hB]
      · rw [if_neg hA]
    refine ⟨-1, S, hI.mono, fun M Q hX hQ => ?_, fun M Q hY hQ => ?_⟩
    · show kE 41 0 [.ref 0, .int x1, .int x2, .int x3, .null] [] M Q
      simp only [e41_0, e41_1, e41_2, e41_4, e41_7, e41_10, e41_11, e41_12, e41_15, e41_18, e41_21, e41_22, e41_23, e41_26, e41_29, e41_32, e41_33, e41_35, e41_38, e41_39, e41_42, e41_45, e41_46, e41_47, e41_48, e41_51, e41_52, e41_55, e41_58, e41_59, e41_60, e41_61, e41_64, e41_65, e41_68, e41_69, e41_71, e41_72, e41_75, e41_78, e41_79, e41_80, e41_81, e41_82, e41_85, e41_88, e41_89, e41_90, e41_91, e41_93, e41_96, e41_97, e41_100, e41_101, eq_self, kcat_nil, kcat_int, kcat_long, kcat_ref, kNL_int, kNL_ref, kNL_null, Option.toList_some, Option.toList_none, List.nil_append, List.cons_append, Nat.reduceAdd, Nat.reduceLeDiff, Nat.reduceEqDiff, true_and, and_true, true_or, or_true, false_or, or_false, ite_true, ite_false, x_isIn, n10, not_false_eq_true, not_true_eq_false, if_true, if_false]
      exact (bad hall).mpr (hQ M hX Fx.rfl')
    · show kE 91 0 [.ref 166, .int x1, .int x2, .int x3, .null] [] M Q
      simp only [e91_0, e91_1, e91_2, e91_4, e91_7, e91_10, e91_11, e91_12, e91_15, e91_18, e91_21, e91_22, e91_23, e91_26, e91_29, e91_32, e91_33, e91_35, e91_38, e91_39, e91_41, e91_42, e91_43, e91_44, e91_45, e91_46, e91_47, e91_48, e91_51, e91_52, e91_54, e91_55, e91_56, e91_57, e91_58, e91_59, e91_60, e91_61, e91_64, e91_65, e91_67, e91_69, e91_72, e91_73, e91_76, e91_77, eq_self, kcat_nil, kcat_int, kcat_long, kcat_ref, kNL_int, kNL_ref, kNL_null, Option.toList_some, Option.toList_none, List.nil_append, List.cons_append, Nat.reduceAdd, Nat.reduceLeDiff, Nat.reduceEqDiff, true_and, and_true, true_or, or_true, false_or, or_false, ite_true, ite_false, y_in, n10, not_false_eq_true, not_true_eq_false, if_true, if_false]
      exact (bad hall).mpr (hQ M hY Fy.rfl')
