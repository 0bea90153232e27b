/-! collecting and brushing -/
theorem Inv.mv {p q : NR} {N N' : Nat} (h : Inv p N) (hN : N ≤ N') (ho : ∀ i, i < 51 → q i = p i) (h51 : q 51 ≤ 200 * N') (h52 : q 52 ≤ 1000000) (ht : totN q ≤ totN p) (hs : ∀ t, t < 7 → p 24 ≤ t → q (53 + 12 * t + 10) = 0) : Inv q N' := by
  obtain ⟨g1, g2, g3, g4, g5, g6, g7, g8, g9, g10, g11, g12, g13, g14, g15, g16⟩ := h
  refine ⟨fun k hk => by rw [ho k (by omega)]; exact g1 k hk, fun k hk => by rw [ho _ (by omega)]; exact Nat.le_trans (g2 k hk) (Nat.mul_le_mul_left _ hN), by rw [ho 20 (by omega)]; exact g3, by rw [ho 21 (by omega)]; exact g4, by rw [ho 22 (by omega)]; exact g5, by rw [ho 23 (by omega)]; exact g6, by rw [ho 24 (by omega)]; exact g7, fun t ht => ?_, fun t ht => by rw [ho _ (by omega)]; exact g9 t ht, fun i h1 h2 => by rw [ho i (by omega)]; exact g10 i h1 h2, by rw [ho 49 (by omega)]; exact g11, by rw [ho 50 (by omega)]; exact g12, h51, h52, by rw [ho 50 (by omega)]; omega, fun t ht h => hs t ht (by rw [← ho 24 (by omega)]; exact h)⟩
  rw [ho 24 (by omega)] at ht
  rw [ho _ (by omega)]
  exact g8 t ht
theorem Inv.f51 {p : NR} {N : Nat} (h : Inv p N) : p 51 ≤ 200 * N := h.2.2.2.2.2.2.2.2.2.2.2.2.1
theorem Inv.f52 {p : NR} {N : Nat} (h : Inv p N) : p 52 ≤ 1000000 := h.2.2.2.2.2.2.2.2.2.2.2.2.2.1
theorem Inv.stk0 {p : NR} {N : Nat} (h : Inv p N) : ∀ t, t < 7 → p 24 ≤ t → p (53 + 12 * t + 10) = 0 := h.2.2.2.2.2.2.2.2.2.2.2.2.2.2.2
def cltN (p : NR) (t : Nat) : NR := fun i => if 53 + 12 * t ≤ i ∧ i < 53 + 12 * t + 10 then 0 else nu p (53 + 12 * t + 11) (p (53 + 12 * t + 11) + sumN p (53 + 12 * t)) i
theorem clt_Inv {p : NR} {N t : Nat} (h : Inv p N) (ht : t < 7) : Inv (cltN p t) N := by
  have lo : ∀ i, i < 53 → cltN p t i = p i := fun i hi => by
    unfold cltN
    rw [if_neg (by omega), nu_ne (by omega)]
  have sk : ∀ s, cltN p t (53 + 12 * s + 10) = p (53 + 12 * s + 10) := fun s => by
    unfold cltN
    rw [if_neg (by omega), nu_ne (by omega)]
  refine h.mv (Nat.le_refl _) (fun i hi => lo i (by omega)) (by rw [lo 51 (by decide)]; exact h.f51) (by rw [lo 52 (by decide)]; exact h.f52) ?_ (fun s hs hn => by rw [sk]; exact h.stk0 s hs hn)
  rw [tot_block, tot_block]
  refine Nat.le_of_eq (nsum_congr (fun s hs => ?_))
  rw [sk]
  by_cases hst : s = t
  · subst hst
    have e1 : sumN (cltN p s) (53 + 12 * s) = 0 := nsum_zero (fun k hk => by unfold cltN; rw [if_pos (by omega)])
    have e2 : cltN p s (53 + 12 * s + 11) = p (53 + 12 * s + 11) + sumN p (53 + 12 * s) := by
      unfold cltN
      rw [if_neg (by omega), nu_eq]
    rw [e1, e2]
    omega
  · have e1 : sumN (cltN p t) (53 + 12 * s) = sumN p (53 + 12 * s) := nsum_congr (fun k hk => by unfold cltN; rw [if_neg (by omega), nu_ne (by omega)])
    have e2 : cltN p t (53 + 12 * s + 11) = p (53 + 12 * s + 11) := by
      unfold cltN
      rw [if_neg (by omega), nu_ne (by omega)]
    rw [e1, e2]
/-- in an analysis before and behind, its total the same, no more kept than before -/
def KS2 (p q : NR) : Prop := (J p → J q) ∧ p 49 = 1 ∧ q 49 = 1 ∧ q 50 = p 50 ∧ keptN q ≤ keptN p
def KC2 (p q : NR) : Prop := KS2 p q ∧ keptN q = keptN p
/-- what lies at a place stays nothing, apertures and the number of sieves stay -/
theorem J.less {p q : NR} (hJ : J p) (hn : p 24 ≤ 6) (h1 : ∀ i, 24 ≤ i → i < 31 → q i = p i) (h2 : ∀ t k, t < 6 → k < 10 → p (53 + 12 * (t + 1) + k) = 0 → q (53 + 12 * (t + 1) + k) = 0) : J q := by
  have e : q 24 = p 24 := h1 24 (by decide) (by decide)
  refine ⟨fun t ht => ?_, fun t k ht hk ha => ?_⟩
  · rw [e] at ht
    rw [h1 _ (by omega) (by omega), h1 _ (by omega) (by omega)]
    exact hJ.1 t ht
  · rw [e] at ht
    rw [h1 _ (by omega) (by omega)] at ha
    exact h2 t k (by omega) hk (hJ.2 t k ht hk ha)
theorem clt_KC {p : NR} {t : Nat} (hn : p 24 ≤ 6) (h49 : p 49 = 1) : KC2 p (cltN p t) := by
  have lo : ∀ i, i < 53 → cltN p t i = p i := fun i hi => by
    unfold cltN
    rw [if_neg (by omega), nu_ne (by omega)]
  have ek : keptN (cltN p t) = keptN p := by
    unfold keptN
    rw [lo 24 (by decide)]
    refine nsum_congr (fun s hs => ?_)
    have sk : cltN p t (53 + 12 * s + 10) = p (53 + 12 * s + 10) := by
      unfold cltN
      rw [if_neg (by omega), nu_ne (by omega)]
    rw [sk]
    by_cases hst : s = t
    · subst hst
      have e1 : sumN (cltN p s) (53 + 12 * s) = 0 := nsum_zero (fun k hk => by unfold cltN; rw [if_pos (by omega)])
      have e2 : cltN p s (53 + 12 * s + 11) = p (53 + 12 * s + 11) + sumN p (53 + 12 * s) := by
        unfold cltN
        rw [if_neg (by omega), nu_eq]
      rw [e1, e2]
      omega
    · have e1 : sumN (cltN p t) (53 + 12 * s) = sumN p (53 + 12 * s) := nsum_congr (fun k hk => by unfold cltN; rw [if_neg (by omega), nu_ne (by omega)])
      have e2 : cltN p t (53 + 12 * s + 11) = p (53 + 12 * s + 11) := by
        unfold cltN
        rw [if_neg (by omega), nu_ne (by omega)]
      rw [e1, e2]
  refine ⟨⟨fun hJ => hJ.less hn (fun i _ h => lo i (by omega)) (fun s k hs hk hz => ?_), h49, by rw [lo 49 (by decide)]; exact h49, lo 50 (by decide), Nat.le_of_eq ek⟩, ek⟩
  unfold cltN
  split
  · rfl
  · rw [nu_ne (by omega)]; exact hz
theorem op_collect (x : Int32) : XOK KC2 31 [.int x] := by
  intro S N hN hI
  have n10 : ¬ (1 : Int32) = 0 := by decide
  have hn := hI.1.f24
  have z := z49 hI.1
  rcases rng x 0 (S.1 24) (by omega) (by decide) with h | ⟨t, _, ht, rfl⟩
  · have h' : ¬ (0 ≤ x ∧ x ≤ nI (S.1 24)) := h
    refine ⟨-1, S, hI.mono, Or.inl ⟨by decide, rfl⟩, fun M Q hX hQ => ?_⟩
    · show kE 31 0 [.ref 0, .int x, .null, .null] [] M Q
      have e1 : M 1 5 = nI (S.1 24) := hX.1.f24
      simp only [e31_0, e31_1, e31_4, e31_5, e31_8, e31_11, e31_12, e31_13, e31_14, e31_17, e31_20, e31_23, e31_25, e31_26, e31_27, e31_30, e31_31, e31_34, e31_37, e31_38, e31_39, e31_40, e31_41, e31_44, e31_47, e31_48, e31_49, e31_49r, e31_50, e31_53, e31_54, e31_55, e31_58, e31_59, e31_62, e31_65, e31_66, eq_self, kcat_nil, kcat_int, kcat_long, kcat_ref, kNL_int, kNL_ref, kNL_null, Option.toList_some, Option.toList_none, List.nil_append, List.cons_append, Nat.reduceAdd, Nat.reduceLeDiff, Nat.reduceEqDiff, true_and, and_true, true_or, or_true, false_or, or_false, ite_true, ite_false, tp1, tp5, tp18, x_isTray st1, e1, h', if_false, not_true_eq_false]
      exact hQ M hX Fx.rfl'
  have c : (0 : Int32) ≤ nI t ∧ nI t ≤ nI (S.1 24) := rng_in (by omega) ht (by omega)
  by_cases h49 : S.1 49 = 0
  · refine ⟨-2, S, hI.mono, Or.inl ⟨by decide, rfl⟩, fun M Q hX hQ => ?_⟩
    · show kE 31 0 [.ref 0, .int (nI t), .null, .null] [] M Q
      have e1 : M 1 5 = nI (S.1 24) := hX.1.f24
      have e2 : M 1 10 = nI (S.1 49) := hX.1.f49
      simp only [e31_0, e31_1, e31_4, e31_5, e31_8, e31_11, e31_12, e31_13, e31_14, e31_17, e31_20, e31_23, e31_25, e31_26, e31_27, e31_30, e31_31, e31_34, e31_37, e31_38, e31_39, e31_40, e31_41, e31_44, e31_47, e31_48, e31_49, e31_49r, e31_50, e31_53, e31_54, e31_55, e31_58, e31_59, e31_62, e31_65, e31_66, eq_self, kcat_nil, kcat_int, kcat_long, kcat_ref, kNL_int, kNL_ref, kNL_null, Option.toList_some, Option.toList_none, List.nil_append, List.cons_append, Nat.reduceAdd, Nat.reduceLeDiff, Nat.reduceEqDiff, true_and, and_true, true_or, or_true, false_or, or_false, ite_true, ite_false, tp1, tp5, tp18, x_isTray st1, e1, e2, c, and_self, n10, not_false_eq_true, z, h49, if_false, not_true_eq_false]
      exact hQ M hX Fx.rfl'
  obtain ⟨v, hv⟩ : ∃ v, v = sumN S.1 (53 + 12 * t) := ⟨_, rfl⟩
  have hv2 : v ≤ 99990 := by
    have a := nsum_ge (f := fun t => sumN S.1 (53 + 12 * t) + S.1 (53 + 12 * t + 10) + S.1 (53 + 12 * t + 11)) (i := t) (n := 7) (by omega)
    rw [← tot_block] at a
    have := hI.1.tot
    omega
  refine ⟨nI v, (cltN S.1 t, (sav S).2), hI.sav.cur (clt_Inv hI.1 (by omega)).mono, Or.inr ⟨nI_pos' (by omega), rfl, clt_KC hn (by have := hI.1.f49; omega)⟩, fun M Q hX hQ => ?_⟩
  · show kE 31 0 [.ref 0, .int (nI t), .null, .null] [] M Q
    have e1 : M 1 5 = nI (S.1 24) := hX.1.f24
    have e2 : M 1 10 = nI (S.1 49) := hX.1.f49
    simp only [e31_0, e31_1, e31_4, e31_5, e31_8, e31_11, e31_12, e31_13, e31_14, e31_17, e31_20, e31_23, e31_25, e31_26, e31_27, e31_31, e31_34, e31_37, e31_38, e31_39, e31_40, e31_41, e31_44, e31_47, e31_48, e31_49, e31_49r, e31_50, e31_53, e31_54, e31_55, e31_58, e31_59, e31_62, e31_65, e31_66, eq_self, kcat_nil, kcat_int, kcat_long, kcat_ref, kNL_int, kNL_ref, kNL_null, Option.toList_some, Option.toList_none, List.nil_append, List.cons_append, Nat.reduceAdd, Nat.reduceLeDiff, Nat.reduceEqDiff, true_and, and_true, true_or, or_true, false_or, or_false, ite_true, ite_false, tp1, tp5, tp18, x_isTray st1, e1, e2, c, and_self, n10, not_false_eq_true, z, h49, if_false]
    refine x_saveState hX hI.1.f49 (fun M1 hX1 hF _ _ _ => ?_)
    have hR := hX1.1
    have ht7 : t < 7 := by omega
    have xs : ∀ Q', kE 40 0 [.ref (8 + 2 * t), .null, .null, .null, .null, .null] [] M1 Q' = Q' (some (.int (nI v))) M1 := fun Q' => by
      rw [x_sumOf (kd_l1 ht7) (by rw [ln_l1 ht7]; decide), ln_l1 ht7, hv]
      have := sum_ly hR ht7
      rw [show 1 + 7 + 2 * t = 8 + 2 * t from by omega] at this
      rw [this]
      rfl
    have eco : M1 (7 + 2 * t) 3 = nI (S.1 (53 + 12 * t + 11)) := hR.co ht7
    have xc : ∀ (M : KMem) Q', kE 41 0 [.ref (8 + 2 * t), .null] [] M Q' = Q' none (kclrN M (8 + 2 * t) 10) := fun M Q' => by
      rw [x_clearRow (kd_l1 ht7) (by rw [ln_l1 ht7]; decide), ln_l1 ht7]
    simp only [e31_0, e31_1, e31_4, e31_5, e31_8, e31_11, e31_12, e31_13, e31_14, e31_17, e31_20, e31_23, e31_25, e31_26, e31_27, e31_30, e31_31, e31_34, e31_37, e31_38, e31_39, e31_40, e31_41, e31_44, e31_47, e31_48, e31_49, e31_49r, e31_50, e31_53, e31_54, e31_55, e31_58, e31_59, e31_62, e31_65, e31_66, eq_self, kcat_nil, kcat_int, kcat_long, kcat_ref, kNL_int, kNL_ref, kNL_null, Option.toList_some, Option.toList_none, List.nil_append, List.cons_append, Nat.reduceAdd, Nat.reduceLeDiff, Nat.reduceEqDiff, true_and, and_true, true_or, or_true, false_or, or_false, ite_true, ite_false, tp1, tp5, tp18, tp22, tp27, tp32, tp35, kin_nI (show t < 7 by omega) (by decide), clN (show t < 2 ^ 31 by omega), kd_t1 ht7, rf_t1 ht7, xs, eco, nI_add, xc]
    have s1 := hR.setCo ht7 (nI (S.1 (53 + 12 * t + 11) + v))
    rw [nr_upd] at s1
    have s2 := s1.clrLy ht7 10 (by decide)
    have hO : Off 1 M1 (kclrN (mset M1 (7 + 2 * t) 3 (nI (S.1 (53 + 12 * t + 11) + v))) (8 + 2 * t) 10) := (Off.rfl'.mset (by omega) (by omega)).clr (by omega) (by omega)
    refine hQ _ (hX1.cur hO ?_) (fx1 hF hO)
    have ea : 1 + 6 + 2 * t = 7 + 2 * t := by omega
    have eb : 1 + 7 + 2 * t = 8 + 2 * t := by omega
    rw [ea, eb] at s2
    unfold cltN
    rw [← hv]
    exact s2
def brN (p : NR) (t b : Nat) : NR := nu (nu p (53 + 12 * t + 10) 0) (53 + 12 * t + 11) (p (53 + 12 * t + 11) + (if b = 1 then p (53 + 12 * t + 10) else 0))
theorem br_Inv {p : NR} {N t b : Nat} (h : Inv p N) (ht : t < 7) : Inv (brN p t b) N := by
  have lo : ∀ i, i < 53 → brN p t b i = p i := fun i hi => by
    unfold brN
    rw [nu_ne (by omega), nu_ne (by omega)]
  refine h.mv (Nat.le_refl _) (fun i hi => lo i (by omega)) (by rw [lo 51 (by decide)]; exact h.f51) (by rw [lo 52 (by decide)]; exact h.f52) ?_ (fun s hs hn => ?_)
  · have a1 := tot_nu (p := p) (i := 53 + 12 * t + 10) (v := 0) (by omega) (by omega)
    have a2 := tot_nu (p := nu p (53 + 12 * t + 10) 0) (i := 53 + 12 * t + 11) (v := p (53 + 12 * t + 11) + (if b = 1 then p (53 + 12 * t + 10) else 0)) (by omega) (by omega)
    rw [nu_ne (p := p) (by omega)] at a2
    unfold brN
    split at a2 <;> rename_i hb
    · rw [if_pos hb]; omega
    · rw [if_neg hb]; omega
  · unfold brN
    rw [nu_ne (by omega)]
    by_cases hst : s = t
    · subst hst; rw [nu_eq]
    · rw [nu_ne (by omega)]; exact h.stk0 s hs hn
theorem br_J {p : NR} {t b : Nat} (hn : p 24 ≤ 6) : KJ p (brN p t b) := fun hJ => hJ.less hn (fun i _ _ => by unfold brN; rw [nu_ne (by omega), nu_ne (by omega)]) (fun s k hs hk hz => by unfold brN; rw [nu_ne (by omega), nu_ne (by omega)]; exact hz)
theorem op_brush (x y : Int32) : XOK KJ 32 [.int x, .int y] := by
  intro S N hN hI
  have n10 : ¬ (1 : Int32) = 0 := by decide
  have hn := hI.1.f24
  have z := z49 hI.1
  rcases sieve_rng (x := x) hn with h | ⟨t, ht, rfl⟩
  · refine ⟨-1, S, hI.mono, Or.inl ⟨by decide, rfl⟩, fun M Q hX hQ => ?_⟩
    · show kE 32 0 [.ref 0, .int x, .int y, .null, .null] [] M Q
      have e1 : M 1 5 = nI (S.1 24) := hX.1.f24
      simp only [e32_0, e32_1, e32_4, e32_5, e32_8, e32_11, e32_12, e32_13, e32_14, e32_17, e32_20, e32_21, e32_22, e32_23, e32_26, e32_29, e32_32, e32_34, e32_35, e32_36, e32_39, e32_40, e32_43, e32_46, e32_47, e32_48, e32_49, e32_50, e32_53, e32_55, e32_56, e32_57, e32_60, e32_61, e32_62, e32_65, e32_66, e32_66r, e32_67, e32_70, e32_72, e32_73, e32_76, e32_78, eq_self, kcat_nil, kcat_int, kcat_long, kcat_ref, kNL_int, kNL_ref, kNL_null, Option.toList_some, Option.toList_none, List.nil_append, List.cons_append, Nat.reduceAdd, Nat.reduceLeDiff, Nat.reduceEqDiff, true_and, and_true, true_or, or_true, false_or, or_false, ite_true, ite_false, tp1, tp5, tp18, x_isSieve st1, e1, h, if_false, if_true]
      exact hQ M hX Fx.rfl'
  have c := sieve_in ht hn
  rcases rng y 0 1 (by decide) (by decide) with h | ⟨b, _, hb, rfl⟩
  · have h' : ¬ (0 ≤ y ∧ y ≤ 1) := h
    refine ⟨-1, S, hI.mono, Or.inl ⟨by decide, rfl⟩, fun M Q hX hQ => ?_⟩
    · show kE 32 0 [.ref 0, .int (nI t), .int y, .null, .null] [] M Q
      have e1 : M 1 5 = nI (S.1 24) := hX.1.f24
      simp only [e32_0, e32_1, e32_4, e32_5, e32_8, e32_11, e32_12, e32_13, e32_14, e32_17, e32_20, e32_21, e32_22, e32_23, e32_26, e32_29, e32_32, e32_34, e32_35, e32_36, e32_39, e32_40, e32_43, e32_46, e32_47, e32_48, e32_49, e32_50, e32_53, e32_55, e32_56, e32_57, e32_60, e32_61, e32_62, e32_65, e32_66, e32_66r, e32_67, e32_70, e32_72, e32_73, e32_76, e32_78, eq_self, kcat_nil, kcat_int, kcat_long, kcat_ref, kNL_int, kNL_ref, kNL_null, Option.toList_some, Option.toList_none, List.nil_append, List.cons_append, Nat.reduceAdd, Nat.reduceLeDiff, Nat.reduceEqDiff, true_and, and_true, true_or, or_true, false_or, or_false, ite_true, ite_false, tp1, tp5, tp18, x_isSieve st1, e1, c, and_self, n10, if_false, x_isIn, h', not_true_eq_false]
      exact hQ M hX Fx.rfl'
  have c2 : (0 : Int32) ≤ nI b ∧ nI b ≤ 1 := rng_in (lo := 0) (hi := 1) (by omega) hb (by decide)
  by_cases h49 : S.1 49 = 0
  · refine ⟨-2, S, hI.mono, Or.inl ⟨by decide, rfl⟩, fun M Q hX hQ => ?_⟩
    · show kE 32 0 [.ref 0, .int (nI t), .int (nI b), .null, .null] [] M Q
      have e1 : M 1 5 = nI (S.1 24) := hX.1.f24
      have e2 : M 1 10 = nI (S.1 49) := hX.1.f49
      simp only [e32_0, e32_1, e32_4, e32_5, e32_8, e32_11, e32_12, e32_13, e32_14, e32_17, e32_20, e32_21, e32_22, e32_23, e32_26, e32_29, e32_32, e32_34, e32_35, e32_36, e32_39, e32_40, e32_43, e32_46, e32_47, e32_48, e32_49, e32_50, e32_53, e32_55, e32_56, e32_57, e32_60, e32_61, e32_62, e32_65, e32_66, e32_66r, e32_67, e32_70, e32_72, e32_73, e32_76, e32_78, eq_self, kcat_nil, kcat_int, kcat_long, kcat_ref, kNL_int, kNL_ref, kNL_null, Option.toList_some, Option.toList_none, List.nil_append, List.cons_append, Nat.reduceAdd, Nat.reduceLeDiff, Nat.reduceEqDiff, true_and, and_true, true_or, or_true, false_or, or_false, ite_true, ite_false, tp1, tp5, tp18, x_isSieve st1, e1, e2, c, c2, x_isIn, and_self, n10, not_false_eq_true, z, h49, if_false, not_true_eq_false]
      exact hQ M hX Fx.rfl'
  have ht7 : t < 7 := by omega
  have zb : (nI b = 1) ↔ b = 1 := nI_eq_iff (b := 1) (by omega) (by decide)
  refine ⟨nI (S.1 (53 + 12 * t + 10)), (brN S.1 t b, (sav S).2), hI.sav.cur (br_Inv hI.1 ht7).mono, Or.inr ⟨nI_pos' (by have a := tot_ge (p := S.1) (i := 53 + 12 * t + 10) (by omega) (by omega); have := hI.1.tot; omega), rfl, br_J hn⟩, fun M Q hX hQ => ?_⟩
  · show kE 32 0 [.ref 0, .int (nI t), .int (nI b), .null, .null] [] M Q
    have e1 : M 1 5 = nI (S.1 24) := hX.1.f24
    have e2 : M 1 10 = nI (S.1 49) := hX.1.f49
    simp only [e32_0, e32_1, e32_4, e32_5, e32_8, e32_11, e32_12, e32_13, e32_14, e32_17, e32_20, e32_21, e32_22, e32_23, e32_26, e32_29, e32_32, e32_34, e32_35, e32_36, e32_40, e32_43, e32_46, e32_47, e32_48, e32_49, e32_50, e32_53, e32_55, e32_56, e32_57, e32_60, e32_61, e32_62, e32_65, e32_66, e32_66r, e32_67, e32_70, e32_72, e32_73, e32_76, e32_78, eq_self, kcat_nil, kcat_int, kcat_long, kcat_ref, kNL_int, kNL_ref, kNL_null, Option.toList_some, Option.toList_none, List.nil_append, List.cons_append, Nat.reduceAdd, Nat.reduceLeDiff, Nat.reduceEqDiff, true_and, and_true, true_or, or_true, false_or, or_false, ite_true, ite_false, tp1, tp5, tp18, x_isSieve st1, e1, e2, c, c2, x_isIn, and_self, n10, not_false_eq_true, z, h49, if_false]
    refine x_saveState hX hI.1.f49 (fun M1 hX1 hF _ _ _ => ?_)
    have hR := hX1.1
    have eco : M1 (7 + 2 * t) 3 = nI (S.1 (53 + 12 * t + 11)) := hR.co ht7
    have esk : M1 (7 + 2 * t) 2 = nI (S.1 (53 + 12 * t + 10)) := hR.sk ht7
    have ea : 1 + 6 + 2 * t = 7 + 2 * t := by omega
    have s1 := hR.setSk ht7 (nI 0)
    rw [nr_upd, ea] at s1
    have eco2 : mset M1 (7 + 2 * t) 2 0 (7 + 2 * t) 3 = nI (S.1 (53 + 12 * t + 11)) := by rw [mset_ne (by omega)]; exact eco
    simp only [e32_0, e32_1, e32_4, e32_5, e32_8, e32_11, e32_12, e32_13, e32_14, e32_17, e32_20, e32_21, e32_22, e32_23, e32_26, e32_29, e32_32, e32_34, e32_35, e32_36, e32_39, e32_40, e32_43, e32_46, e32_47, e32_48, e32_49, e32_50, e32_53, e32_55, e32_56, e32_57, e32_60, e32_61, e32_62, e32_65, e32_66, e32_66r, e32_67, e32_70, e32_72, e32_73, e32_76, e32_78, eq_self, kcat_nil, kcat_int, kcat_long, kcat_ref, kNL_int, kNL_ref, kNL_null, Option.toList_some, Option.toList_none, List.nil_append, List.cons_append, Nat.reduceAdd, Nat.reduceLeDiff, Nat.reduceEqDiff, true_and, and_true, true_or, or_true, false_or, or_false, ite_true, ite_false, tp1, tp5, tp18, tp22, tp27, tp32, tp35, kin_nI (show t < 7 by omega) (by decide), clN (show t < 2 ^ 31 by omega), kd_t1 ht7, rf_t1 ht7, esk, eco2, nI_add, zb]
    by_cases h1 : b = 1
    · rw [if_neg (fun z => z h1)]
      have s2 := s1.setCo ht7 (nI (S.1 (53 + 12 * t + 11) + S.1 (53 + 12 * t + 10)))
      rw [nr_upd, ea] at s2
      have hO : Off 1 M1 (mset (mset M1 (7 + 2 * t) 2 0) (7 + 2 * t) 3 (nI (S.1 (53 + 12 * t + 11) + S.1 (53 + 12 * t + 10)))) := (Off.rfl'.mset (by omega) (by omega)).mset (by omega) (by omega)
      refine hQ _ (hX1.cur hO ?_) (fx1 hF hO)
      unfold brN
      rw [if_pos h1]
      exact s2
    · rw [if_pos h1]
      have hO : Off 1 M1 (mset M1 (7 + 2 * t) 2 0) := Off.rfl'.mset (by omega) (by omega)
      refine hQ _ (hX1.cur hO ?_) (fx1 hF hO)
      unfold brN
      rw [if_neg h1]
      refine s1.congr (fun i _ => congrArg nI ?_)
      show nu (nu S.1 (53 + 12 * t + 10) 0) (53 + 12 * t + 11) (S.1 (53 + 12 * t + 11) + 0) i = nu S.1 (53 + 12 * t + 10) 0 i
      by_cases h2 : i = 53 + 12 * t + 11
      · rw [h2, nu_eq, nu_ne (by omega), Nat.add_zero]
      · rw [nu_ne h2]
