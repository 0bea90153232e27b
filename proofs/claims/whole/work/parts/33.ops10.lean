/-! shaking and forecasts -/
theorem drop_out {p : NR} {its A op i : Nat} : ∀ k, (∀ j, j < k → i ≠ its + j ∧ i ≠ its + 12 + j) → dropN p its A op k i = p i := by
  intro k
  induction k with
  | zero => intro _; rfl
  | succ k ih =>
    intro h
    rw [dropN, nu_ne (h k (by omega)).2, nu_ne (h k (by omega)).1]
    exact ih (fun j hj => h j (by omega))
theorem dropV_sum {p : NR} {its A op : Nat} (hop : op ≤ 1000) : ∀ k, k ≤ 10 → dropV p its A op k ≤ nsum (fun j => p (its + j)) k := by
  intro k
  induction k with
  | zero => intro _; exact Nat.le_refl _
  | succ k ih =>
    intro hk
    have a := ih (by omega)
    have b := fall_le (m := dropN p its A op k (its + k)) (d := A - k) hop
    have e : dropN p its A op k (its + k) = p (its + k) := drop_out k (fun j hj => ⟨by omega, by omega⟩)
    rw [dropV, nsum]
    rw [e] at b ⊢
    omega
theorem trV_le {p : NR} {t : Nat} (ht : t < 7) (hA : p (25 + t) ≤ 9) : trV p t ≤ totN p := by
  have a := dropV_sum (p := p) (its := 53 + 12 * t) (A := p (25 + t)) (op := openN p t) open_le (p (25 + t)) (by omega)
  have b := nsum_le_n (f := fun j => p (53 + 12 * t + j)) (show p (25 + t) ≤ 10 by omega)
  have c := nsum_ge (f := fun t => sumN p (53 + 12 * t) + p (53 + 12 * t + 10) + p (53 + 12 * t + 11)) (i := t) (n := 7) ht
  rw [← tot_block] at c
  have d : sumN p (53 + 12 * t) = nsum (fun j => p (53 + 12 * t + j)) 10 := rfl
  unfold trV
  omega
theorem shV_le {p : NR} {n T : Nat} (h : MInv p T) (hn : n ≤ 6) : ∀ j, j ≤ n → shV p n j ≤ j * 99990 := by
  intro j
  induction j with
  | zero => intro _; exact Nat.zero_le _
  | succ j ih =>
    intro hj
    have a := ih (by omega)
    have b := sh_MInv h hn j (by omega)
    have c := trV_le (p := shN p n j) (t := n - 1 - j) (by omega) (b.2.2.2.2.2.1 _ (by omega))
    have d := b.2.2.2.2.2.2.2
    have e := b.2.2.2.2.2.2.1
    rw [shV]
    omega
theorem minV_le {p : NR} {T : Nat} (h : MInv p T) : minV p ≤ 599940 := by
  have a := shV_le h h.2.2.2.1 (p 24) (Nat.le_refl _)
  have b := h.2.2.2.1
  unfold minV
  omega
theorem min_low {p : NR} {i : Nat} (h : i < 51) : minN p i = p i := by
  unfold minN panN
  rw [nu_ne (by omega), nu_ne (by omega), nu_ne (by omega), sh_low (by omega)]
theorem min_51 (p : NR) : minN p 51 = p 51 + 1 := by
  unfold minN
  rw [nu_ne (by omega), nu_eq, sh_low (by omega)]
theorem min_52 (p : NR) : minN p 52 = minV p := by
  unfold minN
  rw [nu_eq]
theorem min_MInv {p : NR} {T : Nat} (h : MInv p T) : MInv (minN p) T := by
  have hn := h.2.2.2.1
  have hM := sh_MInv h hn (p 24) (Nat.le_refl _)
  have lo : ∀ i, i < 51 → minN p i = p i := fun i hi => min_low hi
  have ht : totN (minN p) ≤ totN (shN p (p 24) (p 24)) := by
    unfold minN
    rw [tot_nu_out (by omega), tot_nu_out (by omega)]
    unfold panN
    have := tot_nu (p := shN p (p 24) (p 24)) (i := 53 + 12 * p 24) (v := shN p (p 24) (p 24) (53 + 12 * p 24) - shN p (p 24) (p 24) (53 + 12 * p 24) * shN p (p 24) (p 24) 22 / 1000) (by omega) (by omega)
    omega
  obtain ⟨h1, h2, h3, h4, h5, h6, h7, h8⟩ := h
  refine ⟨by rw [lo 20 (by omega)]; exact h1, by rw [lo 21 (by omega)]; exact h2, by rw [lo 22 (by omega)]; exact h3, by rw [lo 24 (by omega)]; exact h4, fun t ht => ?_, fun t ht => by rw [lo _ (by omega)]; exact h6 t ht, h7, Nat.le_trans ht hM.2.2.2.2.2.2.2⟩
  rw [lo 24 (by omega)] at ht
  rw [lo _ (by omega)]
  exact h5 t ht
theorem tr_stk {p : NR} {s t : Nat} (hA : p (25 + s) ≤ 9) (h : s < t) : trN p s (53 + 12 * t + 10) = p (53 + 12 * t + 10) := by
  unfold trN blindN
  rw [nu_ne (by omega), nu_ne (by omega)]
  exact drop_out _ (fun j hj => ⟨by omega, by omega⟩)
theorem sh_stk {p : NR} {n T t : Nat} (h : MInv p T) (hn : n ≤ 6) (ht : n ≤ t) : ∀ j, j ≤ n → shN p n j (53 + 12 * t + 10) = p (53 + 12 * t + 10) := by
  intro j
  induction j with
  | zero => intro _; rfl
  | succ j ih =>
    intro hj
    have b := sh_MInv h hn j (by omega)
    rw [shN, tr_stk (b.2.2.2.2.2.1 _ (by omega)) (by omega)]
    exact ih (by omega)
theorem min_stk {p : NR} {T t : Nat} (h : MInv p T) (ht : p 24 ≤ t) : minN p (53 + 12 * t + 10) = p (53 + 12 * t + 10) := by
  unfold minN panN
  rw [nu_ne (by omega), nu_ne (by omega), nu_ne (by omega)]
  exact sh_stk h h.2.2.2.1 ht _ (Nat.le_refl _)
def mN (p : NR) : Nat → NR
  | 0 => p
  | j + 1 => minN (mN p j)
def mS (p : NR) : Nat → Nat
  | 0 => 0
  | j + 1 => mS p j + minV (mN p j)
theorem m_MInv {p : NR} {T : Nat} (h : MInv p T) : ∀ j, MInv (mN p j) T := by
  intro j
  induction j with
  | zero => exact h
  | succ j ih => exact min_MInv ih
theorem m_low {p : NR} {i : Nat} (h : i < 51) : ∀ j, mN p j i = p i := by
  intro j
  induction j with
  | zero => rfl
  | succ j ih => rw [mN, min_low h, ih]
theorem m_51 (p : NR) : ∀ j, mN p j 51 = p 51 + j := by
  intro j
  induction j with
  | zero => rfl
  | succ j ih => rw [mN, min_51, ih]; omega
theorem m_stk {p : NR} {T t : Nat} (h : MInv p T) (ht : p 24 ≤ t) : ∀ j, mN p j (53 + 12 * t + 10) = p (53 + 12 * t + 10) := by
  intro j
  induction j with
  | zero => rfl
  | succ j ih => rw [mN, min_stk (m_MInv h j) (by rw [m_low (by omega)]; exact ht), ih]
theorem mS_le {p : NR} {T : Nat} (h : MInv p T) : ∀ j, mS p j ≤ 599940 * j := by
  intro j
  induction j with
  | zero => exact Nat.le_refl _
  | succ j ih =>
    have := minV_le (m_MInv h j)
    rw [mS]
    omega
theorem Inv.m0 {p : NR} {N : Nat} (h : Inv p N) : MInv p (totN p) := ⟨h.2.2.1, h.2.2.2.1, h.2.2.2.2.1, h.f24, h.ap1, h.ap9, h.tot.2.2, Nat.le_refl _⟩
theorem m_Inv {p : NR} {N N' j : Nat} (h : Inv p N) (hN : N ≤ N') (hj : p 51 + j ≤ 200 * N') : Inv (mN p j) N' := by
  refine h.mv hN (fun i hi => m_low hi j) (by rw [m_51]; exact hj) ?_ (m_MInv h.m0 j).2.2.2.2.2.2.2 (fun t ht hs => by rw [m_stk h.m0 hs]; exact h.stk0 t ht hs)
  cases j with
  | zero => exact h.f52
  | succ j =>
    rw [mN, min_52]
    have := minV_le (m_MInv h.m0 j)
    omega
theorem op_shake (x : Int32) : OpOK 46 101 [.int x] := by
  intro S N hN hI
  have n10 : ¬ (1 : Int32) = 0 := by decide
  have z := z49 hI.1
  rcases rng x 1 200 (by decide) (by decide) with h | ⟨m, m1, m2, rfl⟩
  · have h' : ¬ (1 ≤ x ∧ x ≤ 200) := h
    refine ⟨-1, S, hI.mono, fun M Q hX hQ => ?_, fun M Q hY hQ => ?_⟩
    · show kE 46 0 [.ref 0, .int x, .null, .null] [] M Q
      simp only [e46_0, e46_1, e46_2, e46_5, e46_8, e46_11, e46_12, e46_13, e46_14, e46_17, e46_20, e46_23, e46_25, e46_26, e46_27, e46_30, e46_31, e46_32, e46_33, e46_35, e46_36, e46_39, e46_40, e46_41, e46_44, e46_47, e46_48, e46_49, e46_52, e46_55, e46_56, eq_self, kcat_nil, kcat_int, kcat_long, kcat_ref, kNL_int, kNL_ref, kNL_null, Option.toList_some, Option.toList_none, List.nil_append, List.cons_append, Nat.reduceAdd, Nat.reduceLeDiff, Nat.reduceEqDiff, true_and, and_true, true_or, or_true, false_or, or_false, ite_true, ite_false, x_isIn, h', if_false, not_true_eq_false]
      exact hQ M hX Fx.rfl'
    · show kE 101 0 [.ref 166, .int x, .null, .null] [] M Q
      simp only [e101_0, e101_1, e101_2, e101_5, e101_8, e101_11, e101_12, e101_13, e101_14, e101_17, e101_19, e101_20, e101_23, e101_25, e101_26, e101_27, e101_30, e101_31, e101_32, e101_33, e101_35, e101_36, e101_39, e101_40, e101_41, e101_44, e101_45, e101_46, e101_49, e101_52, e101_53, eq_self, kcat_nil, kcat_int, kcat_long, kcat_ref, kNL_int, kNL_ref, kNL_null, Option.toList_some, Option.toList_none, List.nil_append, List.cons_append, Nat.reduceAdd, Nat.reduceLeDiff, Nat.reduceEqDiff, true_and, and_true, true_or, or_true, false_or, or_false, ite_true, ite_false, y_in, h', if_false, not_true_eq_false]
      exact hQ M hY Fy.rfl'
  have c : (1 : Int32) ≤ nI m ∧ nI m ≤ 200 := rng_in (lo := 1) (hi := 200) m1 m2 (by decide)
  by_cases h49 : S.1 49 = 0
  · refine ⟨-2, S, hI.mono, fun M Q hX hQ => ?_, fun M Q hY hQ => ?_⟩
    · show kE 46 0 [.ref 0, .int (nI m), .null, .null] [] M Q
      have e2 : M 1 10 = nI (S.1 49) := hX.1.f49
      simp only [e46_0, e46_1, e46_2, e46_5, e46_8, e46_11, e46_12, e46_13, e46_14, e46_17, e46_20, e46_23, e46_25, e46_26, e46_27, e46_30, e46_31, e46_32, e46_33, e46_35, e46_36, e46_39, e46_40, e46_41, e46_44, e46_47, e46_48, e46_49, e46_52, e46_55, e46_56, eq_self, kcat_nil, kcat_int, kcat_long, kcat_ref, kNL_int, kNL_ref, kNL_null, Option.toList_some, Option.toList_none, List.nil_append, List.cons_append, Nat.reduceAdd, Nat.reduceLeDiff, Nat.reduceEqDiff, true_and, and_true, true_or, or_true, false_or, or_false, ite_true, ite_false, tp1, tp5, tp18, e2, c, x_isIn, and_self, n10, not_false_eq_true, z, h49, if_false, not_true_eq_false]
      exact hQ M hX Fx.rfl'
    · show kE 101 0 [.ref 166, .int (nI m), .null, .null] [] M Q
      have r49 : M 167 49 = nI (S.1 49) := hY.1 49 (by decide)
      simp only [e101_0, e101_1, e101_2, e101_5, e101_8, e101_11, e101_12, e101_13, e101_14, e101_17, e101_19, e101_20, e101_23, e101_25, e101_26, e101_27, e101_30, e101_31, e101_32, e101_33, e101_35, e101_36, e101_39, e101_40, e101_41, e101_44, e101_45, e101_46, e101_49, e101_52, e101_53, eq_self, kcat_nil, kcat_int, kcat_long, kcat_ref, kNL_int, kNL_ref, kNL_null, Option.toList_some, Option.toList_none, List.nil_append, List.cons_append, Nat.reduceAdd, Nat.reduceLeDiff, Nat.reduceEqDiff, true_and, and_true, true_or, or_true, false_or, or_false, ite_true, ite_false, my1, my2, my7, my12, c, y_in, and_self, n10, not_false_eq_true, li49, kin_nI (show 49 < 137 by decide) (by decide), clN (show 49 < 2 ^ 31 by decide), r49, z, h49, if_false, not_true_eq_false]
      exact hQ M hY Fy.rfl'
  have hm := m_MInv hI.1.m0
  refine ⟨nI (mS S.1 m), (mN S.1 m, (sav S).2), hI.sav.cur (m_Inv hI.1 (by omega) (by have := hI.1.f51; omega)), fun M Q hX hQ => ?_, fun M Q hY hQ => ?_⟩
  · show kE 46 0 [.ref 0, .int (nI m), .null, .null] [] M Q
    have e2 : M 1 10 = nI (S.1 49) := hX.1.f49
    simp only [e46_0, e46_1, e46_2, e46_5, e46_8, e46_11, e46_12, e46_13, e46_14, e46_17, e46_20, e46_23, e46_25, e46_26, e46_27, e46_31, e46_32, e46_33, e46_34, e46_35, e46_36, e46_39, e46_40, e46_41, e46_44, e46_47, e46_48, e46_49, e46_52, e46_55, e46_56, eq_self, kcat_nil, kcat_int, kcat_long, kcat_ref, kNL_int, kNL_ref, kNL_null, Option.toList_some, Option.toList_none, List.nil_append, List.cons_append, Nat.reduceAdd, Nat.reduceLeDiff, Nat.reduceEqDiff, true_and, and_true, true_or, or_true, false_or, or_false, ite_true, ite_false, tp1, tp5, tp18, e2, c, x_isIn, and_self, n10, not_false_eq_true, z, h49, if_false]
    refine x_saveState hX hI.1.f49 (fun M1 hX1 hF _ _ _ => ?_)
    have loop : ∀ d j, j + d = m → ∀ M3, StR 1 M3 (nr (mN S.1 j)) → Off 1 M1 M3 → kE 46 34 [.ref 0, .int (nI m), .int (nI (mS S.1 j)), .int (nI j)] [] M3 Q := by
      intro d
      induction d with
      | zero =>
        intro j hj M3 hR3 hO3
        have : j = m := by omega
        subst this
        have le : nI j ≤ nI j := nI_le (Nat.le_refl _) (by omega)
        rw [e46_34]
        simp only [e46_0, e46_1, e46_2, e46_5, e46_8, e46_11, e46_12, e46_13, e46_14, e46_17, e46_20, e46_23, e46_25, e46_26, e46_27, e46_30, e46_31, e46_32, e46_33, e46_35, e46_36, e46_39, e46_40, e46_41, e46_44, e46_47, e46_48, e46_49, e46_52, e46_55, e46_56, eq_self, kcat_nil, kcat_int, kcat_long, kcat_ref, kNL_int, kNL_ref, kNL_null, Option.toList_some, Option.toList_none, List.nil_append, List.cons_append, Nat.reduceAdd, Nat.reduceLeDiff, Nat.reduceEqDiff, true_and, and_true, true_or, or_true, false_or, or_false, ite_true, ite_false, le]
        exact hQ _ (hX1.cur hO3 hR3) (fx1 hF hO3)
      | succ d ih =>
        intro j hj M3 hR3 hO3
        have nle : ¬ nI m ≤ nI j := nI_ge (by omega) (by omega)
        rw [e46_34]
        simp only [e46_0, e46_1, e46_2, e46_5, e46_8, e46_11, e46_12, e46_13, e46_14, e46_17, e46_20, e46_23, e46_25, e46_26, e46_27, e46_30, e46_31, e46_32, e46_33, e46_35, e46_36, e46_39, e46_40, e46_41, e46_44, e46_48, e46_49, e46_52, e46_55, e46_56, eq_self, kcat_nil, kcat_int, kcat_long, kcat_ref, kNL_int, kNL_ref, kNL_null, Option.toList_some, Option.toList_none, List.nil_append, List.cons_append, Nat.reduceAdd, Nat.reduceLeDiff, Nat.reduceEqDiff, true_and, and_true, true_or, or_true, false_or, or_false, ite_true, ite_false, nle, if_false, tp1, tp5, tp18]
        refine x_minute st1 hR3 (hm j) (fun M4 hR4 hO4 => ?_)
        simp only [e46_0, e46_1, e46_2, e46_5, e46_8, e46_11, e46_12, e46_13, e46_14, e46_17, e46_20, e46_23, e46_25, e46_26, e46_27, e46_30, e46_31, e46_32, e46_33, e46_35, e46_36, e46_39, e46_40, e46_41, e46_44, e46_47, e46_48, e46_49, e46_52, e46_55, e46_56, eq_self, kcat_nil, kcat_int, kcat_long, kcat_ref, kNL_int, kNL_ref, kNL_null, Option.toList_some, Option.toList_none, List.nil_append, List.cons_append, Nat.reduceAdd, Nat.reduceLeDiff, Nat.reduceEqDiff, true_and, and_true, true_or, or_true, false_or, or_false, ite_true, ite_false, nI_add, nI_add1]
        exact ih (j + 1) (by omega) M4 hR4 (hO3.trans hO4)
    simp only [e46_0, e46_1, e46_2, e46_5, e46_8, e46_11, e46_12, e46_13, e46_14, e46_17, e46_20, e46_23, e46_25, e46_26, e46_27, e46_30, e46_31, e46_32, e46_33, e46_35, e46_36, e46_39, e46_40, e46_41, e46_44, e46_47, e46_48, e46_49, e46_52, e46_55, e46_56, eq_self, kcat_nil, kcat_int, kcat_long, kcat_ref, kNL_int, kNL_ref, kNL_null, Option.toList_some, Option.toList_none, List.nil_append, List.cons_append, Nat.reduceAdd, Nat.reduceLeDiff, Nat.reduceEqDiff, true_and, and_true, true_or, or_true, false_or, or_false, ite_true, ite_false]
    exact loop m 0 (by omega) M1 hX1.1 Off.rfl'
  · show kE 101 0 [.ref 166, .int (nI m), .null, .null] [] M Q
    have r49 : M 167 49 = nI (S.1 49) := hY.1 49 (by decide)
    simp only [e101_0, e101_1, e101_2, e101_5, e101_8, e101_11, e101_12, e101_13, e101_14, e101_17, e101_19, e101_20, e101_23, e101_25, e101_26, e101_27, e101_31, e101_32, e101_33, e101_34, e101_35, e101_36, e101_39, e101_40, e101_41, e101_44, e101_45, e101_46, e101_49, e101_52, e101_53, eq_self, kcat_nil, kcat_int, kcat_long, kcat_ref, kNL_int, kNL_ref, kNL_null, Option.toList_some, Option.toList_none, List.nil_append, List.cons_append, Nat.reduceAdd, Nat.reduceLeDiff, Nat.reduceEqDiff, true_and, and_true, true_or, or_true, false_or, or_false, ite_true, ite_false, my1, my2, my7, my12, c, y_in, and_self, n10, not_false_eq_true, li49, kin_nI (show 49 < 137 by decide) (by decide), clN (show 49 < 2 ^ 31 by decide), r49, z, h49, if_false]
    refine y_notes hY (fun M1 hY1 hF _ _ _ => ?_)
    have loop : ∀ d j, j + d = m → ∀ M3, RowM M3 (mN S.1 j) → OffY M1 M3 → kE 101 34 [.ref 166, .int (nI m), .int (nI (mS S.1 j)), .int (nI j)] [] M3 Q := by
      intro d
      induction d with
      | zero =>
        intro j hj M3 hR3 hO3
        have : j = m := by omega
        subst this
        have le : nI j ≤ nI j := nI_le (Nat.le_refl _) (by omega)
        rw [e101_34]
        simp only [e101_0, e101_1, e101_2, e101_5, e101_8, e101_11, e101_12, e101_13, e101_14, e101_17, e101_19, e101_20, e101_23, e101_25, e101_26, e101_27, e101_30, e101_31, e101_32, e101_33, e101_35, e101_36, e101_39, e101_40, e101_41, e101_44, e101_45, e101_46, e101_49, e101_52, e101_53, eq_self, kcat_nil, kcat_int, kcat_long, kcat_ref, kNL_int, kNL_ref, kNL_null, Option.toList_some, Option.toList_none, List.nil_append, List.cons_append, Nat.reduceAdd, Nat.reduceLeDiff, Nat.reduceEqDiff, true_and, and_true, true_or, or_true, false_or, or_false, ite_true, ite_false, le]
        exact hQ _ (hY1.cur hO3 hR3) (hF.trans hO3.fy)
      | succ d ih =>
        intro j hj M3 hR3 hO3
        have nle : ¬ nI m ≤ nI j := nI_ge (by omega) (by omega)
        rw [e101_34]
        simp only [e101_0, e101_1, e101_2, e101_5, e101_8, e101_11, e101_12, e101_13, e101_14, e101_17, e101_19, e101_20, e101_23, e101_25, e101_26, e101_27, e101_30, e101_31, e101_32, e101_33, e101_35, e101_36, e101_39, e101_40, e101_41, e101_45, e101_46, e101_49, e101_52, e101_53, eq_self, kcat_nil, kcat_int, kcat_long, kcat_ref, kNL_int, kNL_ref, kNL_null, Option.toList_some, Option.toList_none, List.nil_append, List.cons_append, Nat.reduceAdd, Nat.reduceLeDiff, Nat.reduceEqDiff, true_and, and_true, true_or, or_true, false_or, or_false, ite_true, ite_false, nle, if_false, my1]
        refine y_minute hR3 (hm j) (fun M4 hR4 hO4 => ?_)
        simp only [e101_0, e101_1, e101_2, e101_5, e101_8, e101_11, e101_12, e101_13, e101_14, e101_17, e101_19, e101_20, e101_23, e101_25, e101_26, e101_27, e101_30, e101_31, e101_32, e101_33, e101_35, e101_36, e101_39, e101_40, e101_41, e101_44, e101_45, e101_46, e101_49, e101_52, e101_53, eq_self, kcat_nil, kcat_int, kcat_long, kcat_ref, kNL_int, kNL_ref, kNL_null, Option.toList_some, Option.toList_none, List.nil_append, List.cons_append, Nat.reduceAdd, Nat.reduceLeDiff, Nat.reduceEqDiff, true_and, and_true, true_or, or_true, false_or, or_false, ite_true, ite_false, nI_add, nI_add1]
        exact ih (j + 1) (by omega) M4 hR4 (hO3.trans hO4)
    simp only [e101_0, e101_1, e101_2, e101_5, e101_8, e101_11, e101_12, e101_13, e101_14, e101_17, e101_19, e101_20, e101_23, e101_25, e101_26, e101_27, e101_30, e101_31, e101_32, e101_33, e101_35, e101_36, e101_39, e101_40, e101_41, e101_44, e101_45, e101_46, e101_49, e101_52, e101_53, eq_self, kcat_nil, kcat_int, kcat_long, kcat_ref, kNL_int, kNL_ref, kNL_null, Option.toList_some, Option.toList_none, List.nil_append, List.cons_append, Nat.reduceAdd, Nat.reduceLeDiff, Nat.reduceEqDiff, true_and, and_true, true_or, or_true, false_or, or_false, ite_true, ite_false]
    exact loop m 0 (by omega) M1 hY1.1 OffY.rfl'
