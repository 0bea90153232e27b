/-! the writing calls: samples, rules, text -/
theorem fx1 {M M1 M2 : KMem} (hF : Fx M M1) (h : Off 1 M1 M2) : Fx M M2 := hF.trans (h.fx (by decide))
theorem lft_le (p : NR) (k : Nat) : lftN p k ≤ p k := by unfold lftN; split <;> omega
theorem div_smp {p : NR} {b : Bool} {k : Nat} (hk : k < 10) : divN p b k ≤ p k := by
  unfold divN
  rw [if_pos hk]
  have := lft_le p k
  split <;> omega
theorem div_res {p : NR} {b : Bool} {k : Nat} (hk : k < 10) : divN p b (10 + k) ≤ p (10 + k) + p k ∧ divN p b k + divN p b (10 + k) = p k + p (10 + k) := by
  unfold divN
  rw [if_pos hk, if_neg (by omega), if_pos (by omega), show 10 + k - 10 = k from by omega]
  have := lft_le p k
  cases b
  · simp only [Bool.false_eq_true, if_false]; omega
  · simp only [if_true]; omega
theorem div_out {p : NR} {b : Bool} {i : Nat} (h : 20 ≤ i) : divN p b i = p i := by
  unfold divN
  rw [if_neg (by omega), if_neg (by omega)]
/-- all but samples and reserve the same -/
theorem Inv.smpRes {p q : NR} {N N' : Nat} (h : Inv p N) (hN : N ≤ N') (ho : ∀ i, 20 ≤ i → i < 137 → q i = p i) (h1 : ∀ k, k < 10 → q k ≤ 9999) (h2 : ∀ k, k < 10 → q (10 + k) ≤ 9999 * N') : Inv q N' := by
  obtain ⟨g1, g2, g3, g4, g5, g6, g7, g8, g9, g10, g11, g12, g13, g14, g15, g16⟩ := h
  refine ⟨h1, h2, by rw [ho 20 (by decide) (by decide)]; exact g3, by rw [ho 21 (by decide) (by decide)]; exact g4, by rw [ho 22 (by decide) (by decide)]; exact g5, by rw [ho 23 (by decide) (by decide)]; exact g6, by rw [ho 24 (by decide) (by decide)]; exact g7, fun t ht => ?_, fun t ht => by rw [ho _ (by omega) (by omega)]; exact g9 t ht, fun i hi hi2 => by rw [ho _ (by omega) (by omega)]; exact g10 i hi hi2, by rw [ho 49 (by decide) (by decide)]; exact g11, by rw [ho 50 (by decide) (by decide)]; exact g12, by rw [ho 51 (by decide) (by decide)]; exact Nat.le_trans g13 (Nat.mul_le_mul_left _ hN), by rw [ho 52 (by decide) (by decide)]; exact g14, ?_, fun t ht hs => ?_⟩
  · rw [ho 24 (by decide) (by decide)] at ht
    rw [ho _ (by omega) (by omega)]
    exact g8 t ht
  · rw [ho 50 (by decide) (by decide)]
    unfold totN
    rw [nsum_congr (g := fun k => p (53 + k)) (fun k hk => ho _ (by omega) (by omega))]
    exact g15
  · rw [ho 24 (by decide) (by decide)] at hs
    rw [ho _ (by omega) (by omega)]
    exact g16 t ht hs
theorem Inv.res {p : NR} {N : Nat} (h : Inv p N) : ∀ k, k < 10 → p (10 + k) ≤ 9999 * N := h.2.1
theorem div_Inv {p : NR} {b : Bool} {N : Nat} (h : Inv p N) : Inv (divN p b) (N + 1) :=
  h.smpRes (by omega) (fun i hi _ => div_out hi) (fun k hk => Nat.le_trans (div_smp hk) (h.smp k hk)) (fun k hk => by
    have a := (div_res (p := p) (b := b) hk).1
    have b1 := h.smp k hk
    have c := h.res k hk
    omega)
theorem op_split (x : Int32) : OpOK 32 75 [.int x] := by
  intro S N hN hI
  have n10 : ¬ (1 : Int32) = 0 := by decide
  have hs := sum0_le hI.1
  rcases rng x 0 1 (by decide) (by decide) with h | ⟨a, _, h9, rfl⟩
  · have h' : ¬ (0 ≤ x ∧ x ≤ 1) := h
    refine ⟨-1, S, hI.mono, fun M Q hX hQ => ?_, fun M Q hY hQ => ?_⟩
    · show kE 32 0 [.ref 0, .int x] [] M Q
      simp only [e32_0, e32_1, e32_2, e32_3, e32_6, e32_9, e32_10, e32_11, e32_12, e32_15, e32_18, e32_21, e32_24, e32_26, e32_27, e32_28, e32_31, e32_32, e32_35, e32_36, e32_39, e32_40, e32_43, e32_44, e32_47, e32_48, e32_51, e32_54, e32_57, eq_self, kcat_nil, kcat_int, kcat_long, kcat_ref, kNL_int, kNL_ref, kNL_null, Option.toList_some, Option.toList_none, List.nil_append, List.cons_append, Nat.reduceAdd, Nat.reduceLeDiff, Nat.reduceEqDiff, true_and, and_true, true_or, or_true, false_or, or_false, ite_true, ite_false, x_isIn, h', if_false, not_true_eq_false]
      exact hQ M hX Fx.rfl'
    · show kE 75 0 [.ref 166, .int x] [] M Q
      simp only [e75_0, e75_1, e75_2, e75_3, e75_6, e75_9, e75_10, e75_11, e75_12, e75_13, e75_16, e75_19, e75_21, e75_22, e75_23, e75_26, e75_27, e75_28, e75_31, e75_32, e75_33, e75_36, eq_self, kcat_nil, kcat_int, kcat_long, kcat_ref, kNL_int, kNL_ref, kNL_null, Option.toList_some, Option.toList_none, List.nil_append, List.cons_append, Nat.reduceAdd, Nat.reduceLeDiff, Nat.reduceEqDiff, true_and, and_true, true_or, or_true, false_or, or_false, ite_true, ite_false, y_in, h', if_false, not_true_eq_false]
      exact hQ M hY Fy.rfl'
  have c : (0 : Int32) ≤ nI a ∧ nI a ≤ 1 := rng_in (lo := 0) (hi := 1) (Nat.zero_le _) h9 (by decide)
  have z : (nI (sumN S.1 0) = 0) ↔ sumN S.1 0 = 0 := nI_eq_iff (b := 0) (by omega) (by decide)
  have ys : ∀ (M : KMem) (p : NR), RowM M p → ∀ Q', kE 69 0 [.ref 166, .int 0, .null, .null] [] M Q' = Q' (some (.int (nI (sumN p 0)))) M := fun M p hR Q' => y_sum (f := 0) hR (by decide)
  by_cases h0 : sumN S.1 0 = 0
  · refine ⟨-2, S, hI.mono, fun M Q hX hQ => ?_, fun M Q hY hQ => ?_⟩
    · show kE 32 0 [.ref 0, .int (nI a)] [] M Q
      simp only [e32_0, e32_1, e32_2, e32_3, e32_6, e32_9, e32_10, e32_11, e32_12, e32_15, e32_18, e32_21, e32_24, e32_26, e32_27, e32_28, e32_31, e32_32, e32_35, e32_36, e32_39, e32_40, e32_43, e32_44, e32_47, e32_48, e32_51, e32_54, e32_57, eq_self, kcat_nil, kcat_int, kcat_long, kcat_ref, kNL_int, kNL_ref, kNL_null, Option.toList_some, Option.toList_none, List.nil_append, List.cons_append, Nat.reduceAdd, Nat.reduceLeDiff, Nat.reduceEqDiff, true_and, and_true, true_or, or_true, false_or, or_false, ite_true, ite_false, x_isIn, c, and_self, n10, not_false_eq_true, tp1, tp5, tp18, tp20, x_sum2 hX.1, z, h0, not_true_eq_false, if_true, if_false]
      exact hQ M hX Fx.rfl'
    · show kE 75 0 [.ref 166, .int (nI a)] [] M Q
      simp only [e75_0, e75_1, e75_2, e75_3, e75_6, e75_9, e75_10, e75_11, e75_12, e75_13, e75_16, e75_19, e75_21, e75_22, e75_23, e75_26, e75_27, e75_28, e75_31, e75_32, e75_33, e75_36, eq_self, kcat_nil, kcat_int, kcat_long, kcat_ref, kNL_int, kNL_ref, kNL_null, Option.toList_some, Option.toList_none, List.nil_append, List.cons_append, Nat.reduceAdd, Nat.reduceLeDiff, Nat.reduceEqDiff, true_and, and_true, true_or, or_true, false_or, or_false, ite_true, ite_false, y_in, c, and_self, n10, not_false_eq_true, my1, ys M S.1 hY.1, z, h0, not_true_eq_false, if_true, if_false]
      exact hQ M hY Fy.rfl'
  obtain ⟨b, hb⟩ : ∃ b : Bool, b = decide (a = 0) := ⟨_, rfl⟩
  have za0 : (nI a = 0) ↔ a = 0 := nI_eq_iff (b := 0) (by omega) (by decide)
  have za : (nI a = 0) ↔ b = true := za0.trans (by rw [hb]; simp)
  have ha : nI a = if b = true then 0 else 1 := by
    rcases (show a = 0 ∨ a = 1 by omega) with rfl | rfl
    · rw [hb]; rfl
    · rw [hb]; rfl
  refine ⟨nI (sumN (divN S.1 b) 0), (divN S.1 b, (sav S).2), hI.sav.cur (div_Inv hI.1), fun M Q hX hQ => ?_, fun M Q hY hQ => ?_⟩
  · show kE 32 0 [.ref 0, .int (nI a)] [] M Q
    simp only [e32_0, e32_1, e32_2, e32_3, e32_6, e32_9, e32_10, e32_11, e32_12, e32_15, e32_18, e32_21, e32_24, e32_26, e32_27, e32_28, e32_32, e32_35, e32_36, e32_39, e32_40, e32_43, e32_44, e32_47, e32_48, e32_51, e32_54, e32_57, eq_self, kcat_nil, kcat_int, kcat_long, kcat_ref, kNL_int, kNL_ref, kNL_null, Option.toList_some, Option.toList_none, List.nil_append, List.cons_append, Nat.reduceAdd, Nat.reduceLeDiff, Nat.reduceEqDiff, true_and, and_true, true_or, or_true, false_or, or_false, ite_true, ite_false, x_isIn, c, and_self, n10, not_false_eq_true, tp1, tp5, tp18, tp20, x_sum2 hX.1, z, h0, if_true, if_false]
    refine x_saveState hX hI.1.f49 (fun M1 hX1 hF _ _ _ => ?_)
    have key : kE 11 0 [.ref 1, .int (if b = true then 1 else 0), .null, .null, .null, .null] [] M1 (fun r M' => kE 32 47 [.ref 0, .int (nI a)] (r.toList ++ []) M' Q) := by
      refine x_halveSample st1 hX1.1 hI.1.smp (fun M2 hR2 hO2 => ?_)
      simp only [e32_0, e32_1, e32_2, e32_3, e32_6, e32_9, e32_10, e32_11, e32_12, e32_15, e32_18, e32_21, e32_24, e32_26, e32_27, e32_28, e32_31, e32_32, e32_35, e32_36, e32_39, e32_40, e32_43, e32_44, e32_47, e32_48, e32_51, e32_54, e32_57, eq_self, kcat_nil, kcat_int, kcat_long, kcat_ref, kNL_int, kNL_ref, kNL_null, Option.toList_some, Option.toList_none, List.nil_append, List.cons_append, Nat.reduceAdd, Nat.reduceLeDiff, Nat.reduceEqDiff, true_and, and_true, true_or, or_true, false_or, or_false, ite_true, ite_false, tp1, tp5, tp18, tp20, x_sum2 hR2]
      exact hQ _ (hX1.cur hO2 hR2) (fx1 hF hO2)
    simp only [e32_0, e32_1, e32_2, e32_3, e32_6, e32_9, e32_10, e32_11, e32_12, e32_15, e32_18, e32_21, e32_24, e32_26, e32_27, e32_28, e32_31, e32_32, e32_35, e32_36, e32_39, e32_40, e32_43, e32_44, e32_48, e32_51, e32_54, e32_57, eq_self, kcat_nil, kcat_int, kcat_long, kcat_ref, kNL_int, kNL_ref, kNL_null, Option.toList_some, Option.toList_none, List.nil_append, List.cons_append, Nat.reduceAdd, Nat.reduceLeDiff, Nat.reduceEqDiff, true_and, and_true, true_or, or_true, false_or, or_false, ite_true, ite_false, tp1, tp5, tp18, za]
    by_cases hbt : b = true
    · rw [if_pos hbt] at key
      rw [if_neg (fun z => z hbt)]
      exact key
    · rw [if_neg hbt] at key
      rw [if_pos hbt]
      exact key
  · show kE 75 0 [.ref 166, .int (nI a)] [] M Q
    simp only [e75_0, e75_1, e75_2, e75_3, e75_6, e75_9, e75_10, e75_11, e75_12, e75_13, e75_16, e75_19, e75_21, e75_22, e75_23, e75_26, e75_27, e75_28, e75_31, e75_32, e75_33, e75_36, eq_self, kcat_nil, kcat_int, kcat_long, kcat_ref, kNL_int, kNL_ref, kNL_null, Option.toList_some, Option.toList_none, List.nil_append, List.cons_append, Nat.reduceAdd, Nat.reduceLeDiff, Nat.reduceEqDiff, true_and, and_true, true_or, or_true, false_or, or_false, ite_true, ite_false, y_in, c, and_self, n10, not_false_eq_true, my1, ys M S.1 hY.1, z, h0, if_true, if_false]
    refine y_notes hY (fun M1 hY1 hF _ _ _ => ?_)
    simp only [e75_0, e75_1, e75_2, e75_3, e75_6, e75_9, e75_10, e75_11, e75_12, e75_13, e75_16, e75_19, e75_21, e75_22, e75_23, e75_26, e75_27, e75_28, e75_31, e75_32, e75_33, e75_36, eq_self, kcat_nil, kcat_int, kcat_long, kcat_ref, kNL_int, kNL_ref, kNL_null, Option.toList_some, Option.toList_none, List.nil_append, List.cons_append, Nat.reduceAdd, Nat.reduceLeDiff, Nat.reduceEqDiff, true_and, and_true, true_or, or_true, false_or, or_false, ite_true, ite_false, my1]
    rw [ha]
    refine y_divides hY1.1 hI.1.smp (fun M2 hR2 hO2 => ?_)
    simp only [e75_0, e75_1, e75_2, e75_3, e75_6, e75_9, e75_10, e75_11, e75_12, e75_13, e75_16, e75_19, e75_21, e75_22, e75_23, e75_26, e75_27, e75_28, e75_31, e75_32, e75_33, e75_36, eq_self, kcat_nil, kcat_int, kcat_long, kcat_ref, kNL_int, kNL_ref, kNL_null, Option.toList_some, Option.toList_none, List.nil_append, List.cons_append, Nat.reduceAdd, Nat.reduceLeDiff, Nat.reduceEqDiff, true_and, and_true, true_or, or_true, false_or, or_false, ite_true, ite_false, my1, ys M2 _ hR2]
    exact hQ _ (hY1.cur hO2 hR2) (hF.trans hO2.fy)
/-! splitting again and again -/
def spN (p : NR) : Nat → NR
  | 0 => p
  | j + 1 => divN (spN p j) true
theorem lft_sum (p : NR) : ∀ n, 2 * nsum (fun k => lftN p k) n = nsum (fun k => p k) n + oddN p n % 2 := by
  intro n
  induction n with
  | zero => rfl
  | succ n ih =>
    rw [nsum, nsum, oddN, Nat.mul_add, ih]
    show nsum (fun k => p k) n + oddN p n % 2 + 2 * lftN p n = nsum (fun k => p k) n + p n + (oddN p n + p n % 2) % 2
    unfold lftN
    split <;> omega
theorem sp_sum (p : NR) : sumN (divN p true) 0 = (sumN p 0 + 1) / 2 := by
  have e1 : sumN (divN p true) 0 = nsum (fun k => lftN p k) 10 := nsum_congr (fun k hk => by
    show divN p true (0 + k) = _
    unfold divN
    rw [Nat.zero_add, if_pos hk, if_pos rfl])
  have e2 : sumN p 0 = nsum (fun k => p k) 10 := nsum_congr (fun k _ => by rw [Nat.zero_add])
  have := lft_sum p 10
  rw [e1, e2]
  omega
theorem sp_smp {p : NR} {N : Nat} (h : Inv p N) : ∀ j k, k < 10 → spN p j k ≤ p k ∧ spN p j k + spN p j (10 + k) = p k + p (10 + k) := by
  intro j
  induction j with
  | zero => intro k hk; exact ⟨Nat.le_refl _, rfl⟩
  | succ j ih =>
    intro k hk
    have a := ih k hk
    have b := div_smp (p := spN p j) (b := true) hk
    have c := (div_res (p := spN p j) (b := true) hk).2
    rw [spN]
    omega
theorem sp_out {p : NR} {i : Nat} (h : 20 ≤ i) : ∀ j, spN p j i = p i := by
  intro j
  induction j with
  | zero => rfl
  | succ j ih => rw [spN, div_out h, ih]
theorem sp_Inv {p : NR} {N : Nat} (h : Inv p N) (j : Nat) : Inv (spN p j) (N + 1) :=
  h.smpRes (by omega) (fun i hi _ => sp_out hi j) (fun k hk => Nat.le_trans (sp_smp h j k hk).1 (h.smp k hk)) (fun k hk => by
    have a := (sp_smp h j k hk).2
    have b1 := h.smp k hk
    have c := h.res k hk
    omega)
/-- how often: from place j on, at most d times -/
def spC (p : NR) (m : Nat) : Nat → Nat → Nat
  | 0, j => j
  | d + 1, j => if m < sumN (spN p j) 0 then spC p m d (j + 1) else j
theorem sp_fin {p : NR} {m : Nat} (hm : 1 ≤ m) : ∀ d j, sumN (spN p j) 0 ≤ 2 ^ d → ∀ d', d ≤ d' → spC p m d' j = spC p m d j := by
  intro d
  induction d with
  | zero =>
    intro j h d' _
    rw [Nat.pow_zero] at h
    cases d' with
    | zero => rfl
    | succ d' =>
      show (if m < sumN (spN p j) 0 then spC p m d' (j + 1) else j) = j
      rw [if_neg (by omega)]
  | succ d ih =>
    intro j h d' hd
    obtain ⟨e, rfl⟩ : ∃ e, d' = e + 1 := ⟨d' - 1, by omega⟩
    rw [spC, spC]
    split
    · refine ih (j + 1) ?_ e (by omega)
      rw [spN, sp_sum]
      rw [Nat.pow_succ] at h
      omega
    · rfl
theorem op_splitTo (x : Int32) : OpOK 33 76 [.int x] := by
  intro S N hN hI
  have n10 : ¬ (1 : Int32) = 0 := by decide
  have hs := sum0_le hI.1
  rcases rng x 1 9999 (by decide) (by decide) with h | ⟨m, h1, h9, rfl⟩
  · have h' : ¬ (1 ≤ x ∧ x ≤ 9999) := h
    refine ⟨-1, S, hI.mono, fun M Q hX hQ => ?_, fun M Q hY hQ => ?_⟩
    · show kE 33 0 [.ref 0, .int x, .null] [] M Q
      simp only [e33_0, e33_1, e33_2, e33_5, e33_8, e33_11, e33_12, e33_13, e33_14, e33_17, e33_18, e33_20, e33_22, e33_25, e33_26, e33_29, e33_32, e33_35, e33_36, e33_39, e33_40, e33_43, e33_44, e33_47, e33_50, e33_53, e33_54, eq_self, kcat_nil, kcat_int, kcat_long, kcat_ref, kNL_int, kNL_ref, kNL_null, Option.toList_some, Option.toList_none, List.nil_append, List.cons_append, Nat.reduceAdd, Nat.reduceLeDiff, Nat.reduceEqDiff, true_and, and_true, true_or, or_true, false_or, or_false, ite_true, ite_false, x_isIn, h', if_false, not_true_eq_false]
      exact hQ M hX Fx.rfl'
    · show kE 76 0 [.ref 166, .int x, .null] [] M Q
      simp only [e76_0, e76_1, e76_2, e76_5, e76_8, e76_11, e76_12, e76_13, e76_14, e76_17, e76_18, e76_20, e76_21, e76_24, e76_25, e76_28, e76_29, e76_30, e76_33, e76_36, e76_39, e76_40, eq_self, kcat_nil, kcat_int, kcat_long, kcat_ref, kNL_int, kNL_ref, kNL_null, Option.toList_some, Option.toList_none, List.nil_append, List.cons_append, Nat.reduceAdd, Nat.reduceLeDiff, Nat.reduceEqDiff, true_and, and_true, true_or, or_true, false_or, or_false, ite_true, ite_false, y_in, h', if_false, not_true_eq_false]
      exact hQ M hY Fy.rfl'
  have c : (1 : Int32) ≤ nI m ∧ nI m ≤ 9999 := rng_in (lo := 1) (hi := 9999) h1 h9 (by decide)
  have ys : ∀ (M : KMem) (p : NR), RowM M p → ∀ Q', kE 69 0 [.ref 166, .int 0, .null, .null] [] M Q' = Q' (some (.int (nI (sumN p 0)))) M := fun M p hR Q' => y_sum (f := 0) hR (by decide)
  have hsj : ∀ j, sumN (spN S.1 j) 0 ≤ 99990 := fun j => sum0_le (sp_Inv hI.1 j)
  have hfin : ∀ d', 17 ≤ d' → spC S.1 m d' 0 = spC S.1 m 17 0 := fun d' hd => sp_fin h1 17 0 (by show sumN S.1 0 ≤ 131072; omega) d' hd
  obtain ⟨K, hK⟩ : ∃ K, K = spC S.1 m 17 0 := ⟨_, rfl⟩
  refine ⟨nI K, (spN S.1 K, (sav S).2), hI.sav.cur (sp_Inv hI.1 K), fun M Q hX hQ => ?_, fun M Q hY hQ => ?_⟩
  · show kE 33 0 [.ref 0, .int (nI m), .null] [] M Q
    simp only [e33_0, e33_1, e33_2, e33_5, e33_8, e33_11, e33_12, e33_13, e33_14, e33_17, e33_18, e33_20, e33_22, e33_25, e33_26, e33_29, e33_32, e33_35, e33_36, e33_39, e33_40, e33_43, e33_44, e33_47, e33_50, e33_53, e33_54, eq_self, kcat_nil, kcat_int, kcat_long, kcat_ref, kNL_int, kNL_ref, kNL_null, Option.toList_some, Option.toList_none, List.nil_append, List.cons_append, Nat.reduceAdd, Nat.reduceLeDiff, Nat.reduceEqDiff, true_and, and_true, true_or, or_true, false_or, or_false, ite_true, ite_false, x_isIn, c, and_self, n10, not_false_eq_true, tp5, if_true, if_false]
    refine x_saveState hX hI.1.f49 (fun M1 hX1 hF _ _ _ => ?_)
    have loop : ∀ d j, j + d = 100 → spC S.1 m d j = K → ∀ M2, StR 1 M2 (nr (spN S.1 j)) → Off 1 M1 M2 → kE 33 19 [.ref 0, .int (nI m), .int (nI j)] [] M2 Q := by
      intro d
      induction d with
      | zero =>
        intro j hj hc M2 hR hO
        have : j = 100 := by omega
        subst this
        have le : (100 : Int32) ≤ nI 100 := by decide
        rw [e33_19]
        simp only [e33_0, e33_1, e33_2, e33_5, e33_8, e33_11, e33_12, e33_13, e33_14, e33_17, e33_18, e33_20, e33_22, e33_25, e33_26, e33_29, e33_32, e33_35, e33_36, e33_39, e33_40, e33_43, e33_44, e33_47, e33_50, e33_53, e33_54, eq_self, kcat_nil, kcat_int, kcat_long, kcat_ref, kNL_int, kNL_ref, kNL_null, Option.toList_some, Option.toList_none, List.nil_append, List.cons_append, Nat.reduceAdd, Nat.reduceLeDiff, Nat.reduceEqDiff, true_and, and_true, true_or, or_true, false_or, or_false, ite_true, ite_false, le]
        have hc : 100 = K := hc
        rw [← hc] at hQ
        exact hQ M2 (hX1.cur hO hR) (fx1 hF hO)
      | succ d ih =>
        intro j hj hc M2 hR hO
        have nle : ¬ (100 : Int32) ≤ nI j := by rw [show (100 : Int32) = nI 100 from rfl]; exact nI_ge (by omega) (by decide)
        have z : (nI (sumN (spN S.1 j) 0) ≤ nI m) ↔ sumN (spN S.1 j) 0 ≤ m := nI_le_iff (by have := hsj j; omega) (by omega)
        rw [e33_19]
        simp only [e33_0, e33_1, e33_2, e33_5, e33_8, e33_11, e33_12, e33_13, e33_14, e33_17, e33_18, e33_20, e33_22, e33_25, e33_26, e33_29, e33_32, e33_35, e33_36, e33_39, e33_40, e33_43, e33_44, e33_47, e33_50, e33_53, e33_54, eq_self, kcat_nil, kcat_int, kcat_long, kcat_ref, kNL_int, kNL_ref, kNL_null, Option.toList_some, Option.toList_none, List.nil_append, List.cons_append, Nat.reduceAdd, Nat.reduceLeDiff, Nat.reduceEqDiff, true_and, and_true, true_or, or_true, false_or, or_false, ite_true, ite_false, nle, tp1, tp5, tp18, tp20, x_sum2 hR, z]
        rw [spC] at hc
        by_cases hz : sumN (spN S.1 j) 0 ≤ m
        · rw [if_neg (by omega)] at hc
          rw [if_pos hz]
          rw [← hc] at hQ
          exact hQ M2 (hX1.cur hO hR) (fx1 hF hO)
        · rw [if_pos (by omega)] at hc
          rw [if_neg hz]
          refine x_halveSample (b := true) st1 hR (sp_Inv hI.1 j).smp (fun M3 hR3 hO3 => ?_)
          simp only [e33_0, e33_1, e33_2, e33_5, e33_8, e33_11, e33_12, e33_13, e33_14, e33_17, e33_18, e33_20, e33_22, e33_25, e33_26, e33_29, e33_32, e33_35, e33_36, e33_39, e33_40, e33_43, e33_44, e33_47, e33_50, e33_53, e33_54, eq_self, kcat_nil, kcat_int, kcat_long, kcat_ref, kNL_int, kNL_ref, kNL_null, Option.toList_some, Option.toList_none, List.nil_append, List.cons_append, Nat.reduceAdd, Nat.reduceLeDiff, Nat.reduceEqDiff, true_and, and_true, true_or, or_true, false_or, or_false, ite_true, ite_false, nI_add1]
          exact ih (j + 1) (by omega) hc M3 hR3 (hO.trans hO3)
    simp only [e33_0, e33_1, e33_2, e33_5, e33_8, e33_11, e33_12, e33_13, e33_14, e33_17, e33_18, e33_20, e33_22, e33_25, e33_26, e33_29, e33_32, e33_35, e33_36, e33_39, e33_40, e33_43, e33_44, e33_47, e33_50, e33_53, e33_54, eq_self, kcat_nil, kcat_int, kcat_long, kcat_ref, kNL_int, kNL_ref, kNL_null, Option.toList_some, Option.toList_none, List.nil_append, List.cons_append, Nat.reduceAdd, Nat.reduceLeDiff, Nat.reduceEqDiff, true_and, and_true, true_or, or_true, false_or, or_false, ite_true, ite_false]
    exact loop 100 0 rfl (by rw [hfin 100 (by decide), hK]) M1 hX1.1 Off.rfl'
  · show kE 76 0 [.ref 166, .int (nI m), .null] [] M Q
    simp only [e76_0, e76_1, e76_2, e76_5, e76_8, e76_11, e76_12, e76_13, e76_14, e76_17, e76_18, e76_20, e76_21, e76_24, e76_25, e76_28, e76_29, e76_30, e76_33, e76_36, e76_39, e76_40, eq_self, kcat_nil, kcat_int, kcat_long, kcat_ref, kNL_int, kNL_ref, kNL_null, Option.toList_some, Option.toList_none, List.nil_append, List.cons_append, Nat.reduceAdd, Nat.reduceLeDiff, Nat.reduceEqDiff, true_and, and_true, true_or, or_true, false_or, or_false, ite_true, ite_false, y_in, c, and_self, n10, not_false_eq_true, my1, if_true, if_false]
    refine y_notes hY (fun M1 hY1 hF _ _ _ => ?_)
    have loop : ∀ d j, sumN (spN S.1 j) 0 ≤ 2 ^ d → j + d ≤ 17 → spC S.1 m d j = K → ∀ M2, RowM M2 (spN S.1 j) → OffY M1 M2 → kE 76 19 [.ref 166, .int (nI m), .int (nI j)] [] M2 Q := by
      intro d
      induction d with
      | zero =>
        intro j hj hjd hc M2 hR hO
        have z : (nI (sumN (spN S.1 j) 0) ≤ nI m) ↔ sumN (spN S.1 j) 0 ≤ m := nI_le_iff (by have := hsj j; omega) (by omega)
        rw [Nat.pow_zero] at hj
        rw [e76_19]
        simp only [e76_0, e76_1, e76_2, e76_5, e76_8, e76_11, e76_12, e76_13, e76_14, e76_17, e76_18, e76_20, e76_21, e76_24, e76_25, e76_28, e76_29, e76_30, e76_33, e76_36, e76_39, e76_40, eq_self, kcat_nil, kcat_int, kcat_long, kcat_ref, kNL_int, kNL_ref, kNL_null, Option.toList_some, Option.toList_none, List.nil_append, List.cons_append, Nat.reduceAdd, Nat.reduceLeDiff, Nat.reduceEqDiff, true_and, and_true, true_or, or_true, false_or, or_false, ite_true, ite_false, my1, ys M2 _ hR, z]
        rw [if_pos (by omega)]
        have hc : j = K := hc
        rw [← hc] at hQ
        exact hQ M2 (hY1.cur hO hR) (hF.trans hO.fy)
      | succ d ih =>
        intro j hj hjd hc M2 hR hO
        have z : (nI (sumN (spN S.1 j) 0) ≤ nI m) ↔ sumN (spN S.1 j) 0 ≤ m := nI_le_iff (by have := hsj j; omega) (by omega)
        rw [e76_19]
        simp only [e76_0, e76_1, e76_2, e76_5, e76_8, e76_11, e76_12, e76_13, e76_14, e76_17, e76_18, e76_20, e76_21, e76_24, e76_25, e76_28, e76_29, e76_30, e76_33, e76_36, e76_39, e76_40, eq_self, kcat_nil, kcat_int, kcat_long, kcat_ref, kNL_int, kNL_ref, kNL_null, Option.toList_some, Option.toList_none, List.nil_append, List.cons_append, Nat.reduceAdd, Nat.reduceLeDiff, Nat.reduceEqDiff, true_and, and_true, true_or, or_true, false_or, or_false, ite_true, ite_false, my1, ys M2 _ hR, z]
        rw [spC] at hc
        by_cases hz : sumN (spN S.1 j) 0 ≤ m
        · rw [if_neg (by omega)] at hc
          rw [if_pos hz]
          rw [← hc] at hQ
          exact hQ M2 (hY1.cur hO hR) (hF.trans hO.fy)
        · rw [if_pos (by omega)] at hc
          rw [if_neg hz]
          refine y_divides (b := true) hR (sp_Inv hI.1 j).smp (fun M3 hR3 hO3 => ?_)
          simp only [e76_0, e76_1, e76_2, e76_5, e76_8, e76_11, e76_12, e76_13, e76_14, e76_17, e76_18, e76_20, e76_21, e76_24, e76_25, e76_28, e76_29, e76_30, e76_33, e76_36, e76_39, e76_40, eq_self, kcat_nil, kcat_int, kcat_long, kcat_ref, kNL_int, kNL_ref, kNL_null, Option.toList_some, Option.toList_none, List.nil_append, List.cons_append, Nat.reduceAdd, Nat.reduceLeDiff, Nat.reduceEqDiff, true_and, and_true, true_or, or_true, false_or, or_false, ite_true, ite_false, nI_add1]
          refine ih (j + 1) ?_ (by omega) hc M3 hR3 (hO.trans hO3)
          rw [spN, sp_sum]
          rw [Nat.pow_succ] at hj
          omega
    simp only [e76_0, e76_1, e76_2, e76_5, e76_8, e76_11, e76_12, e76_13, e76_14, e76_17, e76_18, e76_20, e76_21, e76_24, e76_25, e76_28, e76_29, e76_30, e76_33, e76_36, e76_39, e76_40, eq_self, kcat_nil, kcat_int, kcat_long, kcat_ref, kNL_int, kNL_ref, kNL_null, Option.toList_some, Option.toList_none, List.nil_append, List.cons_append, Nat.reduceAdd, Nat.reduceLeDiff, Nat.reduceEqDiff, true_and, and_true, true_or, or_true, false_or, or_false, ite_true, ite_false]
    exact loop 17 0 (by show sumN S.1 0 ≤ 131072; omega) (by decide) hK.symm M1 hY1.1 OffY.rfl'
