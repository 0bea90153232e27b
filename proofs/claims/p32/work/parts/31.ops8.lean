/-! taking a sieve out, the charge -/
theorem tak_Inv {p : NR} {k N : Nat} (h : Inv p N) (hk : k < p 24) : Inv (takN (endsN p) k) N := by
  have hn := h.f24
  have e24 : endsN p 24 = p 24 := ends_lo (by decide)
  have i24 : takN (endsN p) k 24 = p 24 - 1 := by unfold takN; rw [if_pos rfl, e24]
  have iat : ∀ t, t < 6 → takN (endsN p) k (25 + t) = if k ≤ t ∧ t < p 24 - 1 then p (25 + (t + 1)) else p (25 + t) := fun t ht => by
    unfold takN
    rw [if_neg (by omega), if_pos (by omega), e24, show 25 + t - 25 = t from by omega, ends_lo (by omega), ends_lo (by omega)]
    rfl
  refine h.stk (fun i hi hk => ?_) (by rw [i24]; omega) (fun t ht => ?_) (fun t ht => ?_)
  · unfold takN
    rw [if_neg (by omega), if_neg (by omega)]
  · rw [i24] at ht
    rw [iat t (by omega)]
    split
    · exact h.ap1 _ (by omega)
    · exact h.ap1 _ (by omega)
  · rw [iat t ht]
    split
    · exact h.ap9 _ (by omega)
    · exact h.ap9 _ ht
theorem tak_J {p : NR} {k : Nat} (hn : p 24 ≤ 6) (hk : k < p 24) : KJ p (takN (endsN p) k) := fun hJ => by
  have e24 : endsN p 24 = p 24 := ends_lo (by decide)
  have i24 : takN (endsN p) k 24 = p 24 - 1 := by unfold takN; rw [if_pos rfl, e24]
  have iat : ∀ t, t < 6 → takN (endsN p) k (25 + t) = if k ≤ t ∧ t < p 24 - 1 then p (25 + (t + 1)) else p (25 + t) := fun t ht => by
    unfold takN
    rw [if_neg (by omega), if_pos (by omega), e24, show 25 + t - 25 = t from by omega, ends_lo (by omega), ends_lo (by omega)]
    rfl
  have ihi : ∀ i, 53 ≤ i → i < 137 → takN (endsN p) k i = 0 := fun i h1 h2 => by
    unfold takN
    rw [if_neg (by omega), if_neg (by omega), ends_hi (by omega) h2]
  refine ⟨fun t ht => ?_, fun t k ht hk _ => ?_⟩
  · rw [i24] at ht
    rw [iat _ (by omega), iat _ (by omega)]
    have a := hJ.1 t (by omega)
    have b := hJ.1 (t + 1) (by omega)
    split <;> split <;> omega
  · rw [i24] at ht
    exact ihi _ (by omega) (by omega)
theorem op_removeSieve (x : Int32) : XOK KJ 24 [.int x] := by
  intro S N hN hI
  have n10 : ¬ (1 : Int32) = 0 := by decide
  have hn := hI.1.f24
  rcases rng x 1 9 (by decide) (by decide) with h | ⟨a, a1, a9, rfl⟩
  · have h' : ¬ (1 ≤ x ∧ x ≤ 9) := h
    refine ⟨-1, S, hI.mono, Or.inl ⟨by decide, rfl⟩, fun M Q hX hQ => ?_⟩
    · show kE 24 0 [.ref 0, .int x, .null] [] M Q
      simp only [e24_0, e24_1, e24_2, e24_4, e24_7, e24_10, e24_11, e24_12, e24_13, e24_16, e24_17, e24_20, e24_21, e24_22, e24_24, e24_27, e24_29, e24_30, e24_31, e24_34, e24_35, e24_38, e24_41, e24_42, e24_45, e24_46, e24_49, e24_50, e24_53, e24_56, eq_self, kcat_nil, kcat_int, kcat_long, kcat_ref, kNL_int, kNL_ref, kNL_null, Option.toList_some, Option.toList_none, List.nil_append, List.cons_append, Nat.reduceAdd, Nat.reduceLeDiff, Nat.reduceEqDiff, true_and, and_true, true_or, or_true, false_or, or_false, ite_true, ite_false, x_isIn, h', if_false, not_true_eq_false]
      exact hQ M hX Fx.rfl'
  have c : (1 : Int32) ≤ nI a ∧ nI a ≤ 9 := rng_in (lo := 1) (hi := 9) a1 a9 (by decide)
  have zf := find_m9 (p := S.1) (a := a) hn
  by_cases hf : findN S.1 a (S.1 24) 0 = 99
  · refine ⟨-2, S, hI.mono, Or.inl ⟨by decide, rfl⟩, fun M Q hX hQ => ?_⟩
    · show kE 24 0 [.ref 0, .int (nI a), .null] [] M Q
      simp only [e24_0, e24_1, e24_2, e24_4, e24_7, e24_10, e24_11, e24_12, e24_13, e24_16, e24_17, e24_20, e24_21, e24_22, e24_24, e24_27, e24_29, e24_30, e24_31, e24_34, e24_35, e24_38, e24_41, e24_42, e24_45, e24_46, e24_49, e24_50, e24_53, e24_56, eq_self, kcat_nil, kcat_int, kcat_long, kcat_ref, kNL_int, kNL_ref, kNL_null, Option.toList_some, Option.toList_none, List.nil_append, List.cons_append, Nat.reduceAdd, Nat.reduceLeDiff, Nat.reduceEqDiff, true_and, and_true, true_or, or_true, false_or, or_false, ite_true, ite_false, x_isIn, c, and_self, n10, not_false_eq_true, tp1, tp5, tp18, x_findSieve st1 hX.1 hn a9 hI.1.ap9, zf, hf, not_true_eq_false, if_false]
      exact hQ M hX Fx.rfl'
  obtain ⟨k, hkf⟩ : ∃ k, k = findN S.1 a (S.1 24) 0 := ⟨_, rfl⟩
  have hk : k < S.1 24 := by have := (find_or S.1 a (S.1 24) 0).resolve_left hf; omega
  rw [← hkf] at zf hf
  have zn : ¬ nI k = -9 := fun z => hf (zf.mp (by rw [if_neg hf]; exact z))
  obtain ⟨q, hq⟩ : ∃ q, q = endsN S.1 := ⟨_, rfl⟩
  have q24 : q 24 = S.1 24 := by rw [hq]; exact ends_lo (by decide)
  have t24 : takN q k 24 = q 24 - 1 := if_pos rfl
  refine ⟨nI (q 24 - 1), (takN q k, (sav S).2), hI.sav.cur (by rw [hq]; exact (tak_Inv hI.1 hk).mono), Or.inr ⟨nI_pos' (by omega), rfl, by rw [hq]; exact tak_J hn hk⟩, fun M Q hX hQ => ?_⟩
  · show kE 24 0 [.ref 0, .int (nI a), .null] [] M Q
    have fs := fun Q' => x_findSieve (Q := Q') st1 hX.1 hn a9 hI.1.ap9
    rw [← hkf] at fs
    simp only [e24_0, e24_1, e24_2, e24_4, e24_7, e24_10, e24_11, e24_12, e24_13, e24_16, e24_17, e24_20, e24_21, e24_22, e24_24, e24_27, e24_29, e24_30, e24_31, e24_35, e24_38, e24_41, e24_42, e24_45, e24_46, e24_49, e24_50, e24_53, e24_56, eq_self, kcat_nil, kcat_int, kcat_long, kcat_ref, kNL_int, kNL_ref, kNL_null, Option.toList_some, Option.toList_none, List.nil_append, List.cons_append, Nat.reduceAdd, Nat.reduceLeDiff, Nat.reduceEqDiff, true_and, and_true, true_or, or_true, false_or, or_false, ite_true, ite_false, x_isIn, c, and_self, n10, not_false_eq_true, tp1, tp5, tp18, fs, hf, if_false, zn]
    refine x_saveState hX hI.1.f49 (fun M1 hX1 hF _ _ _ => ?_)
    simp only [e24_0, e24_1, e24_2, e24_4, e24_7, e24_10, e24_11, e24_12, e24_13, e24_16, e24_17, e24_20, e24_21, e24_22, e24_24, e24_27, e24_29, e24_30, e24_31, e24_34, e24_35, e24_38, e24_42, e24_45, e24_46, e24_49, e24_50, e24_53, e24_56, eq_self, kcat_nil, kcat_int, kcat_long, kcat_ref, kNL_int, kNL_ref, kNL_null, Option.toList_some, Option.toList_none, List.nil_append, List.cons_append, Nat.reduceAdd, Nat.reduceLeDiff, Nat.reduceEqDiff, true_and, and_true, true_or, or_true, false_or, or_false, ite_true, ite_false, tp1, tp5, tp18]
    refine x_endAnalysis st1 hX1.1 (fun M2 hR2 hO2 => ?_)
    have hR2' : StR 1 M2 (nr q) := by rw [hq]; exact hR2
    simp only [e24_0, e24_1, e24_2, e24_4, e24_7, e24_10, e24_11, e24_12, e24_13, e24_16, e24_17, e24_20, e24_21, e24_22, e24_24, e24_27, e24_29, e24_30, e24_31, e24_34, e24_35, e24_38, e24_41, e24_42, e24_45, e24_46, e24_50, e24_53, e24_56, eq_self, kcat_nil, kcat_int, kcat_long, kcat_ref, kNL_int, kNL_ref, kNL_null, Option.toList_some, Option.toList_none, List.nil_append, List.cons_append, Nat.reduceAdd, Nat.reduceLeDiff, Nat.reduceEqDiff, true_and, and_true, true_or, or_true, false_or, or_false, ite_true, ite_false, tp1, tp5, tp18]
    refine x_takeSieve st1 hR2' (by omega) (by omega) (fun M3 hR3 hO3 => ?_)
    have e1 : M3 1 5 = nI (q 24 - 1) := by
      have : M3 1 5 = nI (takN q k 24) := hR3.f24
      rw [this, t24]
    simp only [e24_0, e24_1, e24_2, e24_4, e24_7, e24_10, e24_11, e24_12, e24_13, e24_16, e24_17, e24_20, e24_21, e24_22, e24_24, e24_27, e24_29, e24_30, e24_31, e24_34, e24_35, e24_38, e24_41, e24_42, e24_45, e24_46, e24_49, e24_50, e24_53, e24_56, eq_self, kcat_nil, kcat_int, kcat_long, kcat_ref, kNL_int, kNL_ref, kNL_null, Option.toList_some, Option.toList_none, List.nil_append, List.cons_append, Nat.reduceAdd, Nat.reduceLeDiff, Nat.reduceEqDiff, true_and, and_true, true_or, or_true, false_or, or_false, ite_true, ite_false, tp1, tp5, tp18, e1]
    exact hQ _ (hX1.cur (hO2.trans hO3) hR3) (fx1 hF (hO2.trans hO3))
theorem beg_Inv {p : NR} {N T : Nat} (h : Inv p N) (hT : T = sumN p 0) (hT2 : T ≤ 99990) : Inv (begN (endsN p) T) N := by
  obtain ⟨g1, g2, g3, g4, g5, g6, g7, g8, g9, g10, g11, g12, g13, g14, g15, g16⟩ := h
  have e : ∀ i, i < 137 → begN (endsN p) T i = if i < 10 then 0 else if 53 ≤ i ∧ i < 63 then p (i - 53) else if i = 49 then 1 else if i = 50 then T else if i < 49 then p i else 0 := fun i hi => by
    unfold begN
    by_cases h1 : i < 10
    · rw [if_pos h1, if_pos h1]
    · rw [if_neg h1, if_neg h1]
      by_cases h2 : 53 ≤ i ∧ i < 63
      · rw [if_pos h2, if_pos h2, ends_lo (by omega)]
      · rw [if_neg h2, if_neg h2]
        by_cases h3 : i = 49
        · rw [if_pos h3, if_pos h3]
        · rw [if_neg h3, if_neg h3]
          by_cases h4 : i = 50
          · rw [if_pos h4, if_pos h4]
          · rw [if_neg h4, if_neg h4]
            by_cases h5 : i < 49
            · rw [if_pos h5, ends_lo h5]
            · rw [if_neg h5, ends_hi (by omega) hi]
  have lo : ∀ i, 10 ≤ i → i < 49 → begN (endsN p) T i = p i := fun i h1 h2 => by
    rw [e i (by omega), if_neg (by omega), if_neg (by omega), if_neg (by omega), if_neg (by omega), if_pos h2]
  have z : ∀ i, 51 ≤ i → i < 137 → ¬ (53 ≤ i ∧ i < 63) → begN (endsN p) T i = 0 := fun i h1 h2 h3 => by
    rw [e i h2, if_neg (by omega), if_neg h3, if_neg (by omega), if_neg (by omega), if_neg (by omega)]
  have e24 := lo 24 (by omega) (by omega)
  have e50 : begN (endsN p) T 50 = T := by rw [e 50 (by omega), if_neg (by omega), if_neg (by omega), if_neg (by omega), if_pos rfl]
  have e49 : begN (endsN p) T 49 = 1 := by rw [e 49 (by omega), if_neg (by omega), if_neg (by omega), if_pos rfl]
  refine ⟨fun k hk => by rw [e k (by omega), if_pos hk]; omega, fun k hk => by rw [lo _ (by omega) (by omega)]; exact g2 k hk, by rw [lo 20 (by omega) (by omega)]; exact g3, by rw [lo 21 (by omega) (by omega)]; exact g4, by rw [lo 22 (by omega) (by omega)]; exact g5, by rw [lo 23 (by omega) (by omega)]; exact g6, by rw [e24]; exact g7, fun t ht => ?_, fun t ht => by rw [lo _ (by omega) (by omega)]; exact g9 t ht, fun i h1 h2 => by rw [lo i (by omega) (by omega)]; exact g10 i h1 h2, by rw [e49]; omega, by rw [e50]; exact hT2, by rw [z 51 (by omega) (by omega) (by omega)]; omega, by rw [z 52 (by omega) (by omega) (by omega)]; omega, ?_, fun t ht _ => z _ (by omega) (by omega) (by omega)⟩
  · rw [e24] at ht
    rw [lo _ (by omega) (by omega)]
    exact g8 t ht
  · rw [e50]
    unfold totN
    rw [show (84 : Nat) = 10 + 74 from rfl, nsum_split, nsum_zero (n := 74) (fun k hk => z _ (by omega) (by omega) (by omega))]
    have : nsum (fun k => begN (endsN p) T (53 + k)) 10 = sumN p 0 := nsum_congr (fun k hk => by
      rw [e _ (by omega), if_neg (by omega), if_pos (by omega), Nat.zero_add]
      exact congrArg p (by omega))
    omega
theorem beg_J {p : NR} {T : Nat} (hn : p 24 ≤ 6) : KJ p (begN (endsN p) T) := fun hJ => by
  have lo : ∀ i, 10 ≤ i → i < 49 → begN (endsN p) T i = p i := fun i h1 h2 => by
    unfold begN
    rw [if_neg (by omega), if_neg (by omega), if_neg (by omega), if_neg (by omega), ends_lo (by omega)]
  have hi : ∀ i, 63 ≤ i → i < 137 → begN (endsN p) T i = 0 := fun i h1 h2 => by
    unfold begN
    rw [if_neg (by omega), if_neg (by omega), if_neg (by omega), if_neg (by omega), ends_hi (by omega) h2]
  refine ⟨fun t ht => ?_, fun t k ht hk _ => ?_⟩
  · rw [lo 24 (by omega) (by omega)] at ht
    rw [lo _ (by omega) (by omega), lo _ (by omega) (by omega)]
    exact hJ.1 t ht
  · rw [lo 24 (by omega) (by omega)] at ht
    exact hi _ (by omega) (by omega)
theorem op_charge : XOK KJ 29 [] := by
  intro S N hN hI
  have hn := hI.1.f24
  have hs := sum0_le hI.1
  obtain ⟨T, hT⟩ : ∃ T, T = sumN S.1 0 := ⟨_, rfl⟩
  have zn : (nI (S.1 24) = 0) ↔ S.1 24 = 0 := nI_eq_iff (b := 0) (by omega) (by decide)
  have zt : (nI T = 0) ↔ T = 0 := nI_eq_iff (b := 0) (by omega) (by decide)
  have xs : ∀ (M : KMem), StR 1 M (nr S.1) → ∀ Q', kE 40 0 [.ref 2, .null, .null, .null, .null, .null] [] M Q' = Q' (some (.int (nI T))) M := fun M hR Q' => by rw [hT]; exact x_sum2 hR
  by_cases hb : S.1 24 = 0 ∨ T = 0
  · refine ⟨-2, S, hI.mono, Or.inl ⟨by decide, rfl⟩, fun M Q hX hQ => ?_⟩
    · show kE 29 0 [.ref 0, .null] [] M Q
      have e1 : M 1 5 = nI (S.1 24) := hX.1.f24
      simp only [e29_0, e29_1, e29_4, e29_7, e29_10, e29_11, e29_12, e29_15, e29_18, e29_21, e29_22, e29_25, e29_27, e29_28, e29_29, e29_32, e29_33, e29_36, e29_39, e29_40, e29_43, e29_44, e29_47, e29_48, eq_self, kcat_nil, kcat_int, kcat_long, kcat_ref, kNL_int, kNL_ref, kNL_null, Option.toList_some, Option.toList_none, List.nil_append, List.cons_append, Nat.reduceAdd, Nat.reduceLeDiff, Nat.reduceEqDiff, true_and, and_true, true_or, or_true, false_or, or_false, ite_true, ite_false, tp1, tp5, tp18, tp20, xs M hX.1, e1, zn, zt]
      by_cases h0 : S.1 24 = 0
      · rw [if_pos h0]; exact hQ M hX Fx.rfl'
      · rw [if_neg h0, if_neg (fun z => z (hb.resolve_left h0))]; exact hQ M hX Fx.rfl'
  have h0 : ¬ S.1 24 = 0 := fun z => hb (Or.inl z)
  have h1 : ¬ T = 0 := fun z => hb (Or.inr z)
  obtain ⟨q, hq⟩ : ∃ q, q = endsN S.1 := ⟨_, rfl⟩
  refine ⟨nI T, (begN q T, (sav S).2), hI.sav.cur (by rw [hq]; exact (beg_Inv hI.1 hT (by omega)).mono), Or.inr ⟨nI_pos' (by omega), rfl, by rw [hq]; exact beg_J hn⟩, fun M Q hX hQ => ?_⟩
  · show kE 29 0 [.ref 0, .null] [] M Q
    have e1 : M 1 5 = nI (S.1 24) := hX.1.f24
    simp only [e29_0, e29_1, e29_4, e29_7, e29_10, e29_11, e29_12, e29_15, e29_18, e29_21, e29_22, e29_25, e29_27, e29_28, e29_29, e29_33, e29_36, e29_39, e29_40, e29_43, e29_44, e29_47, e29_48, eq_self, kcat_nil, kcat_int, kcat_long, kcat_ref, kNL_int, kNL_ref, kNL_null, Option.toList_some, Option.toList_none, List.nil_append, List.cons_append, Nat.reduceAdd, Nat.reduceLeDiff, Nat.reduceEqDiff, true_and, and_true, true_or, or_true, false_or, or_false, ite_true, ite_false, tp1, tp5, tp18, tp20, xs M hX.1, e1, zn, zt, h0, h1, if_false, not_false_eq_true]
    refine x_saveState hX hI.1.f49 (fun M1 hX1 hF _ _ _ => ?_)
    simp only [e29_0, e29_1, e29_4, e29_7, e29_10, e29_11, e29_12, e29_15, e29_18, e29_21, e29_22, e29_25, e29_27, e29_28, e29_29, e29_32, e29_33, e29_36, e29_40, e29_43, e29_44, e29_47, e29_48, eq_self, kcat_nil, kcat_int, kcat_long, kcat_ref, kNL_int, kNL_ref, kNL_null, Option.toList_some, Option.toList_none, List.nil_append, List.cons_append, Nat.reduceAdd, Nat.reduceLeDiff, Nat.reduceEqDiff, true_and, and_true, true_or, or_true, false_or, or_false, ite_true, ite_false, tp1, tp5, tp18]
    refine x_endAnalysis st1 hX1.1 (fun M2 hR2 hO2 => ?_)
    have hR2' : StR 1 M2 (nr q) := by rw [hq]; exact hR2
    simp only [e29_0, e29_1, e29_4, e29_7, e29_10, e29_11, e29_12, e29_15, e29_18, e29_21, e29_22, e29_25, e29_27, e29_28, e29_29, e29_32, e29_33, e29_36, e29_39, e29_40, e29_43, e29_44, e29_48, eq_self, kcat_nil, kcat_int, kcat_long, kcat_ref, kNL_int, kNL_ref, kNL_null, Option.toList_some, Option.toList_none, List.nil_append, List.cons_append, Nat.reduceAdd, Nat.reduceLeDiff, Nat.reduceEqDiff, true_and, and_true, true_or, or_true, false_or, or_false, ite_true, ite_false, tp1, tp5, tp18]
    refine x_beginAnalysis st1 hR2' (fun M3 hR3 hO3 => ?_)
    simp only [e29_0, e29_1, e29_4, e29_7, e29_10, e29_11, e29_12, e29_15, e29_18, e29_21, e29_22, e29_25, e29_27, e29_28, e29_29, e29_32, e29_33, e29_36, e29_39, e29_40, e29_43, e29_44, e29_47, e29_48, eq_self, kcat_nil, kcat_int, kcat_long, kcat_ref, kNL_int, kNL_ref, kNL_null, Option.toList_some, Option.toList_none, List.nil_append, List.cons_append, Nat.reduceAdd, Nat.reduceLeDiff, Nat.reduceEqDiff, true_and, and_true, true_or, or_true, false_or, or_false, ite_true, ite_false]
    exact hQ _ (hX1.cur (hO2.trans hO3) hR3) (fx1 hF (hO2.trans hO3))
