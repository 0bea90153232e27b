/-! splitting -/
theorem fx1 {M M1 M2 : KMem} (hF : Fx M M1) (h : Off 1 M1 M2) : Fx M M2 := hF.trans (h.fx (by decide))
theorem lft_le (p : NR) (k : Nat) : lftN p k ≤ p k := by unfold lftN; split <;> omega
theorem div_smp {p : NR} {b : Bool} {k : Nat} (hk : k < 10) : divN p b k ≤ p k := by
  unfold divN
  rw [if_pos hk]
  have := lft_le p k
  split <;> omega
theorem div_res {p : NR} {b : Bool} {k : Nat} (hk : k < 10) : divN p b (10 + k) ≤ p (10 + k) + p k ∧ divN p b k + divN p b (10 + k) = p k + p (10 + k) := by
  unfold divN
  rw [if_pos hk, if_neg (by omega), if_pos (by omega), show 10 + k - 10 = k from by omega]
  have := lft_le p k
  cases b
  · simp only [Bool.false_eq_true, if_false]; omega
  · simp only [if_true]; omega
theorem div_out {p : NR} {b : Bool} {i : Nat} (h : 20 ≤ i) : divN p b i = p i := by
  unfold divN
  rw [if_neg (by omega), if_neg (by omega)]
/-- all but samples and reserve the same -/
theorem Inv.smpRes {p q : NR} {N N' : Nat} (h : Inv p N) (hN : N ≤ N') (ho : ∀ i, 20 ≤ i → i < 137 → q i = p i) (h1 : ∀ k, k < 10 → q k ≤ 9999) (h2 : ∀ k, k < 10 → q (10 + k) ≤ 9999 * N') : Inv q N' := by
  obtain ⟨g1, g2, g3, g4, g5, g6, g7, g8, g9, g10, g11, g12, g13, g14, g15, g16⟩ := h
  refine ⟨h1, h2, by rw [ho 20 (by decide) (by decide)]; exact g3, by rw [ho 21 (by decide) (by decide)]; exact g4, by rw [ho 22 (by decide) (by decide)]; exact g5, by rw [ho 23 (by decide) (by decide)]; exact g6, by rw [ho 24 (by decide) (by decide)]; exact g7, fun t ht => ?_, fun t ht => by rw [ho _ (by omega) (by omega)]; exact g9 t ht, fun i hi hi2 => by rw [ho _ (by omega) (by omega)]; exact g10 i hi hi2, by rw [ho 49 (by decide) (by decide)]; exact g11, by rw [ho 50 (by decide) (by decide)]; exact g12, by rw [ho 51 (by decide) (by decide)]; exact Nat.le_trans g13 (Nat.mul_le_mul_left _ hN), by rw [ho 52 (by decide) (by decide)]; exact g14, ?_, fun t ht hs => ?_⟩
  · rw [ho 24 (by decide) (by decide)] at ht
    rw [ho _ (by omega) (by omega)]
    exact g8 t ht
  · rw [ho 50 (by decide) (by decide)]
    unfold totN
    rw [nsum_congr (g := fun k => p (53 + k)) (fun k hk => ho _ (by omega) (by omega))]
    exact g15
  · rw [ho 24 (by decide) (by decide)] at hs
    rw [ho _ (by omega) (by omega)]
    exact g16 t ht hs
theorem Inv.res {p : NR} {N : Nat} (h : Inv p N) : ∀ k, k < 10 → p (10 + k) ≤ 9999 * N := h.2.1
theorem div_Inv {p : NR} {b : Bool} {N : Nat} (h : Inv p N) : Inv (divN p b) (N + 1) :=
  h.smpRes (by omega) (fun i hi _ => div_out hi) (fun k hk => Nat.le_trans (div_smp hk) (h.smp k hk)) (fun k hk => by
    have a := (div_res (p := p) (b := b) hk).1
    have b1 := h.smp k hk
    have c := h.res k hk
    omega)
def KD (p q : NR) : Prop := (J p → J q) ∧ sumN q 0 + sumN q 10 = sumN p 0 + sumN p 10
theorem nsum_add (f g : Nat → Nat) (n : Nat) : nsum f n + nsum g n = nsum (fun k => f k + g k) n := by
  induction n with
  | zero => rfl
  | succ n ih => rw [nsum, nsum, nsum, ← ih]; omega
theorem sum_both {p q : NR} (h : ∀ k, k < 10 → q k + q (10 + k) = p k + p (10 + k)) : sumN q 0 + sumN q 10 = sumN p 0 + sumN p 10 := by
  unfold sumN
  rw [nsum_add, nsum_add]
  exact nsum_congr (fun k hk => by rw [Nat.zero_add]; exact h k hk)
theorem div_KD {p : NR} {b : Bool} (hn : p 24 ≤ 6) : KD p (divN p b) := ⟨fun hJ => hJ.same (fun i h1 _ => div_out (by omega)) hn, sum_both (fun k hk => (div_res hk).2)⟩
theorem op_split (x : Int32) : XOK KD 21 [.int x] := by
  intro S N hN hI
  have n10 : ¬ (1 : Int32) = 0 := by decide
  have hs := sum0_le hI.1
  rcases rng x 0 1 (by decide) (by decide) with h | ⟨a, _, h9, rfl⟩
  · have h' : ¬ (0 ≤ x ∧ x ≤ 1) := h
    refine ⟨-1, S, hI.mono, Or.inl ⟨by decide, rfl⟩, fun M Q hX hQ => ?_⟩
    · show kE 21 0 [.ref 0, .int x] [] M Q
      simp only [e21_0, e21_1, e21_2, e21_3, e21_6, e21_9, e21_10, e21_11, e21_12, e21_15, e21_18, e21_21, e21_24, e21_26, e21_27, e21_28, e21_31, e21_32, e21_35, e21_36, e21_39, e21_40, e21_43, e21_44, e21_47, e21_48, e21_51, e21_54, e21_57, eq_self, kcat_nil, kcat_int, kcat_long, kcat_ref, kNL_int, kNL_ref, kNL_null, Option.toList_some, Option.toList_none, List.nil_append, List.cons_append, Nat.reduceAdd, Nat.reduceLeDiff, Nat.reduceEqDiff, true_and, and_true, true_or, or_true, false_or, or_false, ite_true, ite_false, x_isIn, h', if_false, not_true_eq_false]
      exact hQ M hX Fx.rfl'
  have c : (0 : Int32) ≤ nI a ∧ nI a ≤ 1 := rng_in (lo := 0) (hi := 1) (Nat.zero_le _) h9 (by decide)
  have z : (nI (sumN S.1 0) = 0) ↔ sumN S.1 0 = 0 := nI_eq_iff (b := 0) (by omega) (by decide)
  by_cases h0 : sumN S.1 0 = 0
  · refine ⟨-2, S, hI.mono, Or.inl ⟨by decide, rfl⟩, fun M Q hX hQ => ?_⟩
    · show kE 21 0 [.ref 0, .int (nI a)] [] M Q
      simp only [e21_0, e21_1, e21_2, e21_3, e21_6, e21_9, e21_10, e21_11, e21_12, e21_15, e21_18, e21_21, e21_24, e21_26, e21_27, e21_28, e21_31, e21_32, e21_35, e21_36, e21_39, e21_40, e21_43, e21_44, e21_47, e21_48, e21_51, e21_54, e21_57, eq_self, kcat_nil, kcat_int, kcat_long, kcat_ref, kNL_int, kNL_ref, kNL_null, Option.toList_some, Option.toList_none, List.nil_append, List.cons_append, Nat.reduceAdd, Nat.reduceLeDiff, Nat.reduceEqDiff, true_and, and_true, true_or, or_true, false_or, or_false, ite_true, ite_false, x_isIn, c, and_self, n10, not_false_eq_true, tp1, tp5, tp18, tp20, x_sum2 hX.1, z, h0, not_true_eq_false, if_true, if_false]
      exact hQ M hX Fx.rfl'
  obtain ⟨b, hb⟩ : ∃ b : Bool, b = decide (a = 0) := ⟨_, rfl⟩
  have za0 : (nI a = 0) ↔ a = 0 := nI_eq_iff (b := 0) (by omega) (by decide)
  have za : (nI a = 0) ↔ b = true := za0.trans (by rw [hb]; simp)
  have ha : nI a = if b = true then 0 else 1 := by
    rcases (show a = 0 ∨ a = 1 by omega) with rfl | rfl
    · rw [hb]; rfl
    · rw [hb]; rfl
  refine ⟨nI (sumN (divN S.1 b) 0), (divN S.1 b, (sav S).2), hI.sav.cur (div_Inv hI.1), Or.inr ⟨nI_pos' (by have := sum0_le (div_Inv (b := b) hI.1); omega), rfl, div_KD hI.1.f24⟩, fun M Q hX hQ => ?_⟩
  · show kE 21 0 [.ref 0, .int (nI a)] [] M Q
    simp only [e21_0, e21_1, e21_2, e21_3, e21_6, e21_9, e21_10, e21_11, e21_12, e21_15, e21_18, e21_21, e21_24, e21_26, e21_27, e21_28, e21_32, e21_35, e21_36, e21_39, e21_40, e21_43, e21_44, e21_47, e21_48, e21_51, e21_54, e21_57, eq_self, kcat_nil, kcat_int, kcat_long, kcat_ref, kNL_int, kNL_ref, kNL_null, Option.toList_some, Option.toList_none, List.nil_append, List.cons_append, Nat.reduceAdd, Nat.reduceLeDiff, Nat.reduceEqDiff, true_and, and_true, true_or, or_true, false_or, or_false, ite_true, ite_false, x_isIn, c, and_self, n10, not_false_eq_true, tp1, tp5, tp18, tp20, x_sum2 hX.1, z, h0, if_true, if_false]
    refine x_saveState hX hI.1.f49 (fun M1 hX1 hF _ _ _ => ?_)
    have key : kE 3 0 [.ref 1, .int (if b = true then 1 else 0), .null, .null, .null, .null] [] M1 (fun r M' => kE 21 47 [.ref 0, .int (nI a)] (r.toList ++ []) M' Q) := by
      refine x_halveSample st1 hX1.1 hI.1.smp (fun M2 hR2 hO2 => ?_)
      simp only [e21_0, e21_1, e21_2, e21_3, e21_6, e21_9, e21_10, e21_11, e21_12, e21_15, e21_18, e21_21, e21_24, e21_26, e21_27, e21_28, e21_31, e21_32, e21_35, e21_36, e21_39, e21_40, e21_43, e21_44, e21_47, e21_48, e21_51, e21_54, e21_57, eq_self, kcat_nil, kcat_int, kcat_long, kcat_ref, kNL_int, kNL_ref, kNL_null, Option.toList_some, Option.toList_none, List.nil_append, List.cons_append, Nat.reduceAdd, Nat.reduceLeDiff, Nat.reduceEqDiff, true_and, and_true, true_or, or_true, false_or, or_false, ite_true, ite_false, tp1, tp5, tp18, tp20, x_sum2 hR2]
      exact hQ _ (hX1.cur hO2 hR2) (fx1 hF hO2)
    simp only [e21_0, e21_1, e21_2, e21_3, e21_6, e21_9, e21_10, e21_11, e21_12, e21_15, e21_18, e21_21, e21_24, e21_26, e21_27, e21_28, e21_31, e21_32, e21_35, e21_36, e21_39, e21_40, e21_43, e21_44, e21_48, e21_51, e21_54, e21_57, eq_self, kcat_nil, kcat_int, kcat_long, kcat_ref, kNL_int, kNL_ref, kNL_null, Option.toList_some, Option.toList_none, List.nil_append, List.cons_append, Nat.reduceAdd, Nat.reduceLeDiff, Nat.reduceEqDiff, true_and, and_true, true_or, or_true, false_or, or_false, ite_true, ite_false, tp1, tp5, tp18, za]
    by_cases hbt : b = true
    · rw [if_pos hbt] at key
      rw [if_neg (fun z => z hbt)]
      exact key
    · rw [if_neg hbt] at key
      rw [if_pos hbt]
      exact key
