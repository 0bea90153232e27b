/-! rules -/
theorem Inv.alt {p q : NR} {N : Nat} (h : Inv p N) (ho : ∀ i, i < 137 → ¬ (20 ≤ i ∧ i < 24) → ¬ (31 ≤ i ∧ i < 49) → q i = p i) (hr : (1 ≤ q 20 ∧ q 20 ≤ 9999) ∧ q 21 ≤ 200 ∧ q 22 ≤ 100 ∧ q 23 ≤ 100) (hb : ∀ i, 31 ≤ i → i < 49 → q i ≤ 1000) : Inv q N := by
  obtain ⟨g1, g2, g3, g4, g5, g6, g7, g8, g9, g10, g11, g12, g13, g14, g15, g16⟩ := h
  refine ⟨fun k hk => by rw [ho k (by omega) (by omega) (by omega)]; exact g1 k hk, fun k hk => by rw [ho _ (by omega) (by omega) (by omega)]; exact g2 k hk, hr.1, hr.2.1, hr.2.2.1, hr.2.2.2, by rw [ho 24 (by omega) (by omega) (by omega)]; exact g7, fun t ht => ?_, fun t ht => by rw [ho _ (by omega) (by omega) (by omega)]; exact g9 t ht, hb, by rw [ho 49 (by omega) (by omega) (by omega)]; exact g11, by rw [ho 50 (by omega) (by omega) (by omega)]; exact g12, by rw [ho 51 (by omega) (by omega) (by omega)]; exact g13, by rw [ho 52 (by omega) (by omega) (by omega)]; exact g14, ?_, fun t ht hs => ?_⟩
  · rw [ho 24 (by omega) (by omega) (by omega)] at ht
    rw [ho _ (by omega) (by omega) (by omega)]
    exact g8 t ht
  · rw [ho 50 (by omega) (by omega) (by omega)]
    unfold totN
    rw [nsum_congr (g := fun k => p (53 + k)) (fun k hk => ho _ (by omega) (by omega) (by omega))]
    exact g15
  · rw [ho 24 (by omega) (by omega) (by omega)] at hs
    rw [ho _ (by omega) (by omega) (by omega)]
    exact g16 t ht hs
theorem J.same20 {p q : NR} (hJ : J p) (h : ∀ i, 24 ≤ i → i < 137 → q i = p i) (hn : p 24 ≤ 6) : J q := J.same h hn hJ
theorem op_setRules (x1 x2 x3 x4 : Int32) : XOK KJ 25 [.int x1, .int x2, .int x3, .int x4] := by
  intro S N hN hI
  have n10 : ¬ (1 : Int32) = 0 := by decide
  by_cases hall : (1 ≤ x1 ∧ x1 ≤ 9999) ∧ (0 ≤ x2 ∧ x2 ≤ 200) ∧ (0 ≤ x3 ∧ x3 ≤ 100) ∧ (0 ≤ x4 ∧ x4 ≤ 100)
  · obtain ⟨c1, c2, c3, c4⟩ := hall
    obtain ⟨c, a1, a2, rfl⟩ := (rng x1 1 9999 (by decide) (by decide)).resolve_left (fun q => q c1)
    obtain ⟨b, _, b2, rfl⟩ := (rng x2 0 200 (by decide) (by decide)).resolve_left (fun q => q c2)
    obtain ⟨e, _, e2, rfl⟩ := (rng x3 0 100 (by decide) (by decide)).resolve_left (fun q => q c3)
    obtain ⟨g, _, g2, rfl⟩ := (rng x4 0 100 (by decide) (by decide)).resolve_left (fun q => q c4)
    have r20 := hI.1.2.2.1
    have r21 := hI.1.2.2.2.1
    have r22 := hI.1.2.2.2.2.1
    have r23 := hI.1.2.2.2.2.2.1
    obtain ⟨q, hq⟩ : ∃ q, q = nu (nu (nu (nu S.1 20 c) 21 b) 22 e) 23 g := ⟨_, rfl⟩
    have hIq : Inv q (N + 1) := by
      rw [hq]
      refine hI.1.mono.alt (fun i _ h1 _ => by rw [nu_ne (by omega), nu_ne (by omega), nu_ne (by omega), nu_ne (by omega)]) ⟨?_, ?_, ?_, ?_⟩ (fun i h1 h2 => by rw [nu_ne (by omega), nu_ne (by omega), nu_ne (by omega), nu_ne (by omega)]; exact hI.1.band i h1 h2)
      · rw [nu_ne (by omega), nu_ne (by omega), nu_ne (by omega), nu_eq]; exact ⟨a1, a2⟩
      · rw [nu_ne (by omega), nu_ne (by omega), nu_eq]; exact b2
      · rw [nu_ne (by omega), nu_eq]; exact e2
      · rw [nu_eq]; exact g2
    have KJq : KJ S.1 q := fun hJ => hJ.same20 (fun i h1 _ => by rw [hq, nu_ne (by omega), nu_ne (by omega), nu_ne (by omega), nu_ne (by omega)]) hI.1.f24
    refine ⟨if S.1 20 = c ∧ S.1 21 = b ∧ S.1 22 = e ∧ S.1 23 = g then 0 else 1, (q, (sav S).2), hI.sav.cur hIq, Or.inr ⟨by split <;> decide, rfl, KJq⟩, fun M Q hX hQ => ?_⟩
    · show kE 25 0 [.ref 0, .int (nI c), .int (nI b), .int (nI e), .int (nI g), .null] [] M Q
      simp only [e25_0, e25_1, e25_2, e25_5, e25_8, e25_11, e25_12, e25_13, e25_16, e25_19, e25_22, e25_23, e25_24, e25_26, e25_29, e25_32, e25_34, e25_35, e25_37, e25_40, e25_43, e25_44, e25_45, e25_46, e25_50, e25_53, e25_56, e25_57, e25_60, e25_61, e25_64, e25_67, e25_68, e25_71, e25_72, e25_75, e25_78, e25_79, e25_82, e25_83, e25_86, e25_89, e25_91, e25_94, e25_95, e25_98, e25_99, e25_101, e25_102, e25_105, e25_106, e25_109, e25_110, e25_113, e25_114, e25_117, e25_118, e25_121, e25_122, e25_125, e25_126, e25_129, e25_131, e25_134, e25_136, e25_139, e25_140, e25_143, e25_144, eq_self, kcat_nil, kcat_int, kcat_long, kcat_ref, kNL_int, kNL_ref, kNL_null, Option.toList_some, Option.toList_none, List.nil_append, List.cons_append, Nat.reduceAdd, Nat.reduceLeDiff, Nat.reduceEqDiff, true_and, and_true, true_or, or_true, false_or, or_false, ite_true, ite_false, x_isIn, c1, c2, c3, c4, and_self, n10, not_false_eq_true, tp5]
      refine x_saveState hX hI.1.f49 (fun M1 hX1 hF _ _ _ => ?_)
      have hR := hX1.1
      have f1 : M1 1 6 = nI (S.1 20) := hR.f20
      have f2 : M1 1 7 = nI (S.1 21) := hR.f21
      have f3 : M1 1 8 = nI (S.1 22) := hR.f22
      have f4 : M1 1 9 = nI (S.1 23) := hR.f23
      have z1 : (nI (S.1 20) = nI c) ↔ S.1 20 = c := nI_eq_iff (by omega) (by omega)
      have z2 : (nI (S.1 21) = nI b) ↔ S.1 21 = b := nI_eq_iff (by omega) (by omega)
      have z3 : (nI (S.1 22) = nI e) ↔ S.1 22 = e := nI_eq_iff (by omega) (by omega)
      have z4 : (nI (S.1 23) = nI g) ↔ S.1 23 = g := nI_eq_iff (by omega) (by omega)
      have fin : ∀ f : Int32, (f = 0 ∨ f = 1) → (if f = 0 then (1 : Int32) else 0) = (if S.1 20 = c ∧ S.1 21 = b ∧ S.1 22 = e ∧ S.1 23 = g then 0 else 1) → kE 25 99 [.ref 0, .int (nI c), .int (nI b), .int (nI e), .int (nI g), .null] [.int f] M1 Q := by
        intro f hf he
        have s1 := hR.set 20 (by decide) (by unfold isAp; omega) (by decide) (c := 1) (j := 6) rfl rfl (nI c)
        have s2 := s1.set 21 (by decide) (by unfold isAp; omega) (by decide) (c := 1) (j := 7) rfl rfl (nI b)
        have s3 := s2.set 22 (by decide) (by unfold isAp; omega) (by decide) (c := 1) (j := 8) rfl rfl (nI e)
        have s4 := s3.set 23 (by decide) (by unfold isAp; omega) (by decide) (c := 1) (j := 9) rfl rfl (nI g)
        rw [nr_upd, nr_upd, nr_upd, nr_upd] at s4
        have hO : Off 1 M1 (mset (mset (mset (mset M1 1 6 (nI c)) 1 7 (nI b)) 1 8 (nI e)) 1 9 (nI g)) := (((Off.rfl'.mset (by decide) (by decide)).mset (by decide) (by decide)).mset (by decide) (by decide)).mset (by decide) (by decide)
        have hq' := hQ _ (hX1.cur hO (by rw [hq]; exact s4)) (fx1 hF hO)
        simp only [e25_0, e25_1, e25_2, e25_5, e25_8, e25_11, e25_12, e25_13, e25_16, e25_19, e25_22, e25_23, e25_24, e25_26, e25_29, e25_32, e25_34, e25_35, e25_37, e25_40, e25_43, e25_44, e25_45, e25_46, e25_49, e25_50, e25_53, e25_56, e25_57, e25_60, e25_61, e25_64, e25_67, e25_68, e25_71, e25_72, e25_75, e25_78, e25_79, e25_82, e25_83, e25_86, e25_89, e25_91, e25_94, e25_95, e25_98, e25_99, e25_101, e25_102, e25_105, e25_106, e25_109, e25_110, e25_113, e25_114, e25_117, e25_118, e25_121, e25_122, e25_125, e25_126, e25_129, e25_131, e25_134, e25_136, e25_139, e25_140, e25_143, e25_144, eq_self, kcat_nil, kcat_int, kcat_long, kcat_ref, kNL_int, kNL_ref, kNL_null, Option.toList_some, Option.toList_none, List.nil_append, List.cons_append, Nat.reduceAdd, Nat.reduceLeDiff, Nat.reduceEqDiff, true_and, and_true, true_or, or_true, false_or, or_false, ite_true, ite_false, tp1, tp5, tp18]
        rcases hf with rfl | rfl
        · rw [if_pos rfl]
          rw [← he, if_pos rfl] at hq'
          exact hq'
        · rw [if_neg n10]
          rw [← he, if_neg n10] at hq'
          exact hq'
      simp only [e25_0, e25_1, e25_2, e25_5, e25_8, e25_11, e25_12, e25_13, e25_16, e25_19, e25_22, e25_23, e25_24, e25_26, e25_29, e25_32, e25_34, e25_35, e25_37, e25_40, e25_43, e25_44, e25_45, e25_46, e25_49, e25_50, e25_53, e25_56, e25_57, e25_60, e25_61, e25_64, e25_67, e25_68, e25_71, e25_72, e25_75, e25_78, e25_79, e25_82, e25_83, e25_86, e25_89, e25_91, e25_94, e25_95, e25_98, e25_101, e25_102, e25_105, e25_106, e25_109, e25_110, e25_113, e25_114, e25_117, e25_118, e25_121, e25_122, e25_125, e25_126, e25_129, e25_131, e25_134, e25_136, e25_139, e25_140, e25_143, e25_144, eq_self, kcat_nil, kcat_int, kcat_long, kcat_ref, kNL_int, kNL_ref, kNL_null, Option.toList_some, Option.toList_none, List.nil_append, List.cons_append, Nat.reduceAdd, Nat.reduceLeDiff, Nat.reduceEqDiff, true_and, and_true, true_or, or_true, false_or, or_false, ite_true, ite_false, tp1, tp5, tp18, f1, f2, f3, f4, z1, z2, z3, z4]
      by_cases h1 : S.1 20 = c
      · rw [if_neg (fun z => z h1)]
        by_cases h2 : S.1 21 = b
        · rw [if_neg (fun z => z h2)]
          by_cases h3 : S.1 22 = e
          · rw [if_neg (fun z => z h3)]
            by_cases h4 : S.1 23 = g
            · rw [if_neg (fun z => z h4)]
              exact fin 1 (Or.inr rfl) (by rw [if_neg n10, if_pos ⟨h1, h2, h3, h4⟩])
            · rw [if_pos h4]
              exact fin 0 (Or.inl rfl) (by rw [if_pos rfl, if_neg (fun z => h4 z.2.2.2)])
          · rw [if_pos h3]
            exact fin 0 (Or.inl rfl) (by rw [if_pos rfl, if_neg (fun z => h3 z.2.2.1)])
        · rw [if_pos h2]
          exact fin 0 (Or.inl rfl) (by rw [if_pos rfl, if_neg (fun z => h2 z.2.1)])
      · rw [if_pos h1]
        exact fin 0 (Or.inl rfl) (by rw [if_pos rfl, if_neg (fun z => h1 z.1)])
  · have bad : ∀ {A B C D : Prop} [Decidable A] [Decidable B] [Decidable C] [Decidable D] {P R : Prop}, ¬ (A ∧ B ∧ C ∧ D) → ((if A then (if B then (if C then (if D then P else R) else R) else R) else R) ↔ R) := by
      intro A B C D _ _ _ _ P R h
      by_cases hA : A
      · rw [if_pos hA]
        by_cases hB : B
        · rw [if_pos hB]
          by_cases hC : C
          · rw [if_pos hC]
            by_cases hD : D
            · exact absurd ⟨hA, hB, hC, hD⟩ h
            · rw [if_neg hD]
          · rw [if_neg hC]
        · rw [if_neg hB]
      · rw [if_neg hA]
    refine ⟨-1, S, hI.mono, Or.inl ⟨by decide, rfl⟩, fun M Q hX hQ => ?_⟩
    · show kE 25 0 [.ref 0, .int x1, .int x2, .int x3, .int x4, .null] [] M Q
      simp only [e25_0, e25_1, e25_2, e25_5, e25_8, e25_11, e25_12, e25_13, e25_16, e25_19, e25_22, e25_23, e25_24, e25_26, e25_29, e25_32, e25_34, e25_35, e25_37, e25_40, e25_43, e25_44, e25_46, e25_49, e25_50, e25_53, e25_56, e25_57, e25_60, e25_61, e25_64, e25_67, e25_68, e25_71, e25_72, e25_75, e25_78, e25_79, e25_82, e25_83, e25_86, e25_89, e25_91, e25_94, e25_95, e25_98, e25_99, e25_101, e25_102, e25_105, e25_106, e25_109, e25_110, e25_113, e25_114, e25_117, e25_118, e25_121, e25_122, e25_125, e25_126, e25_129, e25_131, e25_134, e25_136, e25_139, e25_140, e25_143, e25_144, eq_self, kcat_nil, kcat_int, kcat_long, kcat_ref, kNL_int, kNL_ref, kNL_null, Option.toList_some, Option.toList_none, List.nil_append, List.cons_append, Nat.reduceAdd, Nat.reduceLeDiff, Nat.reduceEqDiff, true_and, and_true, true_or, or_true, false_or, or_false, ite_true, ite_false, x_isIn, n10, not_false_eq_true, not_true_eq_false, if_true, if_false]
      exact (bad hall).mpr (hQ M hX Fx.rfl')
