/-! each call: the class and the reference answer alike -/
def OpOK (mx my : Nat) (as : List Value) : Prop := ∀ (S : KS) (N : Nat), N < 512 → IS S N → ∃ (r : Int32) (S' : KS), IS S' (N + 1) ∧ (∀ M Q, XR S M → (∀ M', XR S' M' → Fx M M' → Q (some (.int r)) M') → kE mx 0 (kent mx (.ref 0 :: as)) [] M Q) ∧ (∀ M Q, YR S M → (∀ M', YR S' M' → Fy M M' → Q (some (.int r)) M') → kE my 0 (kent my (.ref 166 :: as)) [] M Q)
theorem rng (x : Int32) (lo hi : Nat) (h : hi < 2 ^ 30) (hl : lo < 2 ^ 30) : ¬ (nI lo ≤ x ∧ x ≤ nI hi) ∨ ∃ j, lo ≤ j ∧ j ≤ hi ∧ x = nI j := by
  by_cases hx : nI lo ≤ x ∧ x ≤ nI hi
  · right
    obtain ⟨h1, h2⟩ := hx
    rcases pk_ix x (n := hi + 1) (by omega) with q | q | ⟨j, q1, q2⟩
    · exfalso
      rw [Int32.le_iff_toInt_le, nI_toInt (by omega)] at h1
      rw [Int32.lt_iff_toInt_lt, Int32.toInt_zero] at q
      omega
    · exfalso
      rw [Int32.le_iff_toInt_le, nI_toInt (by omega)] at h2 q
      omega
    · subst q2
      rw [nI_le_iff (by omega) (by omega)] at h1
      exact ⟨j, h1, by omega, rfl⟩
  · exact Or.inl hx
theorem rng_in {lo hi j : Nat} (h1 : lo ≤ j) (h2 : j ≤ hi) (h : hi < 2 ^ 31) : nI lo ≤ nI j ∧ nI j ≤ nI hi := ⟨nI_le h1 (by omega), nI_le h2 h⟩
theorem Inv.mono {p : NR} {N : Nat} (h : Inv p N) : Inv p (N + 1) := by
  obtain ⟨h1, h2, h3, h4, h5, h6, h7, h8, h9, h10, h11, h12, h13, h14, h15, h16⟩ := h
  exact ⟨h1, fun k hk => Nat.le_trans (h2 k hk) (by omega), h3, h4, h5, h6, h7, h8, h9, h10, h11, h12, by omega, h14, h15, h16⟩
theorem IS.mono {S : KS} {N : Nat} (h : IS S N) : IS S (N + 1) := ⟨h.1.mono, fun j hj => (h.2.1 j hj).mono, h.2.2⟩
theorem IS.sav {S : KS} {N : Nat} (h : IS S N) : IS (sav S) (N + 1) := by
  obtain ⟨h1, h2, h3, h4, h5⟩ := h
  refine ⟨h1.mono, fun j hj => ?_, ?_, h4, h5⟩
  · have hj : j < min (S.2.1 + 1) 6 := hj
    show Inv (psS S.1 S.2.2.1 j) (N + 1)
    unfold psS
    split
    · exact h1.mono
    · exact (h2 _ (by omega)).mono
  · show min (S.2.1 + 1) 6 ≤ 6
    omega
theorem IS.cur {S : KS} {N : Nat} {p : NR} (h : IS S N) (hp : Inv p N) : IS (p, S.2) N := ⟨hp, h.2⟩
theorem Inv.tot {p : NR} {N : Nat} (h : Inv p N) : totN p ≤ p 50 ∧ p 50 ≤ 99990 ∧ totN p ≤ 99990 := ⟨h.2.2.2.2.2.2.2.2.2.2.2.2.2.2.1, h.2.2.2.2.2.2.2.2.2.2.2.1, Nat.le_trans h.2.2.2.2.2.2.2.2.2.2.2.2.2.2.1 h.2.2.2.2.2.2.2.2.2.2.2.1⟩
theorem Inv.ap9 {p : NR} {N : Nat} (h : Inv p N) : ∀ t, t < 6 → p (25 + t) ≤ 9 := h.2.2.2.2.2.2.2.2.1
theorem Inv.ap1 {p : NR} {N : Nat} (h : Inv p N) : ∀ t, t < p 24 → 1 ≤ p (25 + t) := h.2.2.2.2.2.2.2.1
theorem sum_smp {M : KMem} {p : NR} {o : Nat} (h : StR o M (nr p)) : ksum (M (o + 1)) 10 = nI (sumN p 0) := by
  rw [ksum_congr (g := fun k => nI (p (0 + k))) (fun k hk => by rw [h.smp hk, Nat.zero_add]; rfl), ksum_nI]
  rfl
theorem sum_res {M : KMem} {p : NR} {o : Nat} (h : StR o M (nr p)) : ksum (M (o + 2)) 10 = nI (sumN p 10) := by
  rw [ksum_congr (g := fun k => nI (p (10 + k))) (fun k hk => by rw [h.res hk]; rfl), ksum_nI]
  rfl
theorem sum_ly {M : KMem} {p : NR} {o t : Nat} (h : StR o M (nr p)) (ht : t < 7) : ksum (M (o + 7 + 2 * t)) 10 = nI (sumN p (53 + 12 * t)) := by
  rw [ksum_congr (g := fun k => nI (p (53 + 12 * t + k))) (fun k hk => by rw [h.ly ht hk]; rfl), ksum_nI]
  rfl
theorem x_sum2 {M : KMem} {p : NR} {Q : Option Value → KMem → Prop} (h : StR 1 M (nr p)) : kE 62 0 [.ref 2, .null, .null, .null, .null, .null] [] M Q = Q (some (.int (nI (sumN p 0)))) M := by
  rw [x_sumOf tp25 (by rw [tp30]; decide), tp30]
  have := sum_smp h
  rw [show 1 + 1 = 2 from rfl] at this
  rw [this]
theorem x_sum3 {M : KMem} {p : NR} {Q : Option Value → KMem → Prop} (h : StR 1 M (nr p)) : kE 62 0 [.ref 3, .null, .null, .null, .null, .null] [] M Q = Q (some (.int (nI (sumN p 10)))) M := by
  rw [x_sumOf tp26 (by rw [tp31]; decide), tp31]
  have := sum_res h
  rw [show 1 + 2 = 3 from rfl] at this
  rw [this]
theorem y_massAt {f : Nat} {x : Int32} {M : KMem} {p : NR} {Q : Option Value → KMem → Prop} (hR : RowM M p) (hf : f + 10 ≤ 137) : kE 71 0 [.ref 166, .int (nI f), .int x] [] M Q = Q (some (.int (if x = -1 then nI (sumN p f) else if 0 ≤ x ∧ x ≤ 9 then nI (p (f + x.toNatClampNeg)) else -1))) M := by
  have n10 : ¬ (1 : Int32) = 0 := by decide
  by_cases h1 : x = -1
  · subst h1
    have c1 : (-1 : Int32) ≤ -1 ∧ (-1 : Int32) ≤ 9 := by decide
    have c2 : ¬ (0 : Int32) ≤ -1 := by decide
    simp only [e71_0, e71_1, e71_2, e71_4, e71_7, e71_10, e71_11, e71_14, e71_15, e71_18, e71_19, e71_20, e71_23, e71_26, e71_27, e71_30, e71_31, e71_32, e71_33, e71_34, eq_self, kcat_nil, kcat_int, kcat_long, kcat_ref, kNL_int, kNL_ref, kNL_null, Option.toList_some, Option.toList_none, List.nil_append, List.cons_append, Nat.reduceAdd, Nat.reduceLeDiff, Nat.reduceEqDiff, true_and, and_true, true_or, or_true, false_or, or_false, ite_true, ite_false, y_in, c1, c2, n10, not_false_eq_true, my1, y_sum hR hf]
  · rw [if_neg h1]
    rcases rng x 0 9 (by decide) (by decide) with h | ⟨j, _, h9, rfl⟩
    · have h' : ¬ (0 ≤ x ∧ x ≤ 9) := h
      have c1 : ¬ (-1 ≤ x ∧ x ≤ 9) := by
        intro q
        apply h'
        refine ⟨?_, q.2⟩
        rw [Int32.le_iff_toInt_le] at q ⊢
        have a1 : (-1 : Int32).toInt = -1 := rfl
        have a2 : (0 : Int32).toInt = 0 := rfl
        have : x.toInt ≠ -1 := fun z => h1 (Int32.toInt_inj.mp (by rw [z]; rfl))
        omega
      rw [if_neg h']
      simp only [e71_0, e71_1, e71_2, e71_4, e71_7, e71_10, e71_11, e71_14, e71_15, e71_18, e71_19, e71_20, e71_23, e71_26, e71_27, e71_30, e71_31, e71_32, e71_33, e71_34, eq_self, kcat_nil, kcat_int, kcat_long, kcat_ref, kNL_int, kNL_ref, kNL_null, Option.toList_some, Option.toList_none, List.nil_append, List.cons_append, Nat.reduceAdd, Nat.reduceLeDiff, Nat.reduceEqDiff, true_and, and_true, true_or, or_true, false_or, or_false, ite_true, ite_false, y_in, c1, not_true_eq_false, if_false]
    · have c1 : (-1 : Int32) ≤ nI j ∧ nI j ≤ 9 := by
        rw [Int32.le_iff_toInt_le, Int32.le_iff_toInt_le, nI_toInt (by omega)]
        have a1 : (-1 : Int32).toInt = -1 := rfl
        have a2 : (9 : Int32).toInt = 9 := rfl
        omega
      have c2 : (0 : Int32) ≤ nI j := nI_pos' (by omega)
      rw [if_pos ⟨c2, c1.2⟩, clN (by omega)]
      simp only [e71_0, e71_1, e71_2, e71_4, e71_7, e71_10, e71_11, e71_14, e71_15, e71_18, e71_19, e71_20, e71_23, e71_26, e71_27, e71_30, e71_31, e71_32, e71_33, e71_34, eq_self, kcat_nil, kcat_int, kcat_long, kcat_ref, kNL_int, kNL_ref, kNL_null, Option.toList_some, Option.toList_none, List.nil_append, List.cons_append, Nat.reduceAdd, Nat.reduceLeDiff, Nat.reduceEqDiff, true_and, and_true, true_or, or_true, false_or, or_false, ite_true, ite_false, y_in, c1, and_self, c2, n10, not_false_eq_true, my1, my2, my7, my12, nI_add, kin_nI (show f + j < 137 by omega) (by decide), clN (show f + j < 2 ^ 31 by omega), hR (f + j) (by omega)]
theorem op_mass (x : Int32) : OpOK 30 72 [.int x] := by
  intro S N hN hI
  refine ⟨if x = -1 then nI (sumN S.1 0) else if 0 ≤ x ∧ x ≤ 9 then nI (S.1 (0 + x.toNatClampNeg)) else -1, S, hI.mono, fun M Q hX hQ => ?_, fun M Q hY hQ => ?_⟩
  · show kE 30 0 [.ref 0, .int x] [] M Q
    have hR := hX.1
    by_cases h1 : x = -1
    · subst h1
      simp only [e30_0, e30_1, e30_4, e30_7, e30_8, e30_11, e61_0, e61_1, e61_2, e61_5, e61_6, e61_9, e61_10, e61_11, e61_14, e61_17, e61_18, e61_19, e61_20, e61_23, e61_24, eq_self, kcat_nil, kcat_int, kcat_long, kcat_ref, kNL_int, kNL_ref, kNL_null, Option.toList_some, Option.toList_none, List.nil_append, List.cons_append, Nat.reduceAdd, Nat.reduceLeDiff, Nat.reduceEqDiff, true_and, and_true, true_or, or_true, false_or, or_false, ite_true, ite_false, tp1, tp5, tp18, tp20, not_true_eq_false, if_false, x_sum2 hR]
      exact hQ M hX Fx.rfl'
    · rcases rng x 0 9 (by decide) (by decide) with h | ⟨j, _, h9, rfl⟩
      · have h' : ¬ (0 ≤ x ∧ x ≤ 9) := h
        simp only [e30_0, e30_1, e30_4, e30_7, e30_8, e30_11, e61_0, e61_1, e61_2, e61_5, e61_6, e61_9, e61_10, e61_11, e61_14, e61_17, e61_18, e61_19, e61_20, e61_23, e61_24, eq_self, kcat_nil, kcat_int, kcat_long, kcat_ref, kNL_int, kNL_ref, kNL_null, Option.toList_some, Option.toList_none, List.nil_append, List.cons_append, Nat.reduceAdd, Nat.reduceLeDiff, Nat.reduceEqDiff, true_and, and_true, true_or, or_true, false_or, or_false, ite_true, ite_false, tp1, tp5, tp18, tp20, h1, not_false_eq_true, x_isClass, h', if_false]
        have := hQ M hX Fx.rfl'
        rw [if_neg h1, if_neg h'] at this
        exact this
      · have c : (0 : Int32) ≤ nI j ∧ nI j ≤ 9 := rng_in (by omega) h9 (by decide)
        have n10 : ¬ (1 : Int32) = 0 := by decide
        have e : M 2 j = nI (S.1 j) := hR.smp (by omega)
        simp only [e30_0, e30_1, e30_4, e30_7, e30_8, e30_11, e61_0, e61_1, e61_2, e61_5, e61_6, e61_9, e61_10, e61_11, e61_14, e61_17, e61_18, e61_19, e61_20, e61_23, e61_24, eq_self, kcat_nil, kcat_int, kcat_long, kcat_ref, kNL_int, kNL_ref, kNL_null, Option.toList_some, Option.toList_none, List.nil_append, List.cons_append, Nat.reduceAdd, Nat.reduceLeDiff, Nat.reduceEqDiff, true_and, and_true, true_or, or_true, false_or, or_false, ite_true, ite_false, tp1, tp5, tp18, tp20, tp25, tp30, h1, not_false_eq_true, x_isClass, c, and_self, n10, if_false, kin_nI (show j < 10 by omega) (by decide), clN (show j < 2 ^ 31 by omega), e]
        have := hQ M hX Fx.rfl'
        rw [if_neg h1, if_pos c, clN (show j < 2 ^ 31 by omega), Nat.zero_add] at this
        exact this
  · show kE 72 0 [.ref 166, .int x] [] M Q
    simp only [e72_0, e72_1, e72_2, e72_3, e72_6, eq_self, kcat_nil, kcat_int, kcat_long, kcat_ref, kNL_int, kNL_ref, kNL_null, Option.toList_some, Option.toList_none, List.nil_append, List.cons_append, Nat.reduceAdd, Nat.reduceLeDiff, Nat.reduceEqDiff, true_and, and_true, true_or, or_true, false_or, or_false, ite_true, ite_false, my1]
    rw [show (0 : Int32) = nI 0 from rfl, y_massAt hY.1 (by decide)]
    simp only [e72_0, e72_1, e72_2, e72_3, e72_6, eq_self, kcat_nil, kcat_int, kcat_long, kcat_ref, kNL_int, kNL_ref, kNL_null, Option.toList_some, Option.toList_none, List.nil_append, List.cons_append, Nat.reduceAdd, Nat.reduceLeDiff, Nat.reduceEqDiff, true_and, and_true, true_or, or_true, false_or, or_false, ite_true, ite_false]
    exact hQ M hY Fy.rfl'
theorem op_reserve (x : Int32) : OpOK 31 73 [.int x] := by
  intro S N hN hI
  refine ⟨if x = -1 then nI (sumN S.1 10) else if 0 ≤ x ∧ x ≤ 9 then nI (S.1 (10 + x.toNatClampNeg)) else -1, S, hI.mono, fun M Q hX hQ => ?_, fun M Q hY hQ => ?_⟩
  · show kE 31 0 [.ref 0, .int x] [] M Q
    have hR := hX.1
    by_cases h1 : x = -1
    · subst h1
      simp only [e31_0, e31_1, e31_4, e31_7, e31_8, e31_11, e61_0, e61_1, e61_2, e61_5, e61_6, e61_9, e61_10, e61_11, e61_14, e61_17, e61_18, e61_19, e61_20, e61_23, e61_24, eq_self, kcat_nil, kcat_int, kcat_long, kcat_ref, kNL_int, kNL_ref, kNL_null, Option.toList_some, Option.toList_none, List.nil_append, List.cons_append, Nat.reduceAdd, Nat.reduceLeDiff, Nat.reduceEqDiff, true_and, and_true, true_or, or_true, false_or, or_false, ite_true, ite_false, tp1, tp5, tp18, tp21, not_true_eq_false, if_false, x_sum3 hR]
      exact hQ M hX Fx.rfl'
    · rcases rng x 0 9 (by decide) (by decide) with h | ⟨j, _, h9, rfl⟩
      · have h' : ¬ (0 ≤ x ∧ x ≤ 9) := h
        simp only [e31_0, e31_1, e31_4, e31_7, e31_8, e31_11, e61_0, e61_1, e61_2, e61_5, e61_6, e61_9, e61_10, e61_11, e61_14, e61_17, e61_18, e61_19, e61_20, e61_23, e61_24, eq_self, kcat_nil, kcat_int, kcat_long, kcat_ref, kNL_int, kNL_ref, kNL_null, Option.toList_some, Option.toList_none, List.nil_append, List.cons_append, Nat.reduceAdd, Nat.reduceLeDiff, Nat.reduceEqDiff, true_and, and_true, true_or, or_true, false_or, or_false, ite_true, ite_false, tp1, tp5, tp18, tp21, h1, not_false_eq_true, x_isClass, h', if_false]
        have := hQ M hX Fx.rfl'
        rw [if_neg h1, if_neg h'] at this
        exact this
      · have c : (0 : Int32) ≤ nI j ∧ nI j ≤ 9 := rng_in (by omega) h9 (by decide)
        have n10 : ¬ (1 : Int32) = 0 := by decide
        have e : M 3 j = nI (S.1 (10 + j)) := hR.res (by omega)
        simp only [e31_0, e31_1, e31_4, e31_7, e31_8, e31_11, e61_0, e61_1, e61_2, e61_5, e61_6, e61_9, e61_10, e61_11, e61_14, e61_17, e61_18, e61_19, e61_20, e61_23, e61_24, eq_self, kcat_nil, kcat_int, kcat_long, kcat_ref, kNL_int, kNL_ref, kNL_null, Option.toList_some, Option.toList_none, List.nil_append, List.cons_append, Nat.reduceAdd, Nat.reduceLeDiff, Nat.reduceEqDiff, true_and, and_true, true_or, or_true, false_or, or_false, ite_true, ite_false, tp1, tp5, tp18, tp21, tp26, tp31, h1, not_false_eq_true, x_isClass, c, and_self, n10, if_false, kin_nI (show j < 10 by omega) (by decide), clN (show j < 2 ^ 31 by omega), e]
        have := hQ M hX Fx.rfl'
        rw [if_neg h1, if_pos c, clN (show j < 2 ^ 31 by omega)] at this
        exact this
  · show kE 73 0 [.ref 166, .int x] [] M Q
    simp only [e73_0, e73_1, e73_3, e73_4, e73_7, eq_self, kcat_nil, kcat_int, kcat_long, kcat_ref, kNL_int, kNL_ref, kNL_null, Option.toList_some, Option.toList_none, List.nil_append, List.cons_append, Nat.reduceAdd, Nat.reduceLeDiff, Nat.reduceEqDiff, true_and, and_true, true_or, or_true, false_or, or_false, ite_true, ite_false, my1]
    rw [show (10 : Int32) = nI 10 from rfl, y_massAt hY.1 (by decide)]
    simp only [e73_0, e73_1, e73_3, e73_4, e73_7, eq_self, kcat_nil, kcat_int, kcat_long, kcat_ref, kNL_int, kNL_ref, kNL_null, Option.toList_some, Option.toList_none, List.nil_append, List.cons_append, Nat.reduceAdd, Nat.reduceLeDiff, Nat.reduceEqDiff, true_and, and_true, true_or, or_true, false_or, or_false, ite_true, ite_false]
    exact hQ M hY Fy.rfl'
theorem Inv.nu_smp {p : NR} {N k v : Nat} (h : Inv p N) (hk : k < 10) (hv : v ≤ 9999) : Inv (nu p k v) N := by
  obtain ⟨h1, h2, h3, h4, h5, h6, h7, h8, h9, h10, h11, h12, h13, h14, h15, h16⟩ := h
  refine ⟨fun j hj => ?_, fun j hj => by rw [nu_ne (by omega)]; exact h2 j hj, by rw [nu_ne (by omega)]; exact h3, by rw [nu_ne (by omega)]; exact h4, by rw [nu_ne (by omega)]; exact h5, by rw [nu_ne (by omega)]; exact h6, by rw [nu_ne (by omega)]; exact h7, fun t ht => ?_, fun t ht => by rw [nu_ne (by omega)]; exact h9 t ht, fun i hi hi2 => by rw [nu_ne (by omega)]; exact h10 i hi hi2, by rw [nu_ne (by omega)]; exact h11, by rw [nu_ne (by omega)]; exact h12, by rw [nu_ne (by omega)]; exact h13, by rw [nu_ne (by omega)]; exact h14, by rw [nu_ne (by omega), tot_nu_out (by omega)]; exact h15, fun t ht hs => ?_⟩
  · by_cases hjk : j = k
    · rw [hjk, nu_eq]; exact hv
    · rw [nu_ne hjk]; exact h1 j hj
  · rw [nu_ne (by omega)] at ht
    rw [nu_ne (by omega)]
    exact h8 t ht
  · rw [nu_ne (by omega)] at hs
    rw [nu_ne (by omega)]
    exact h16 t ht hs
theorem op_setMass (x y : Int32) : OpOK 29 70 [.int x, .int y] := by
  intro S N hN hI
  have n10 : ¬ (1 : Int32) = 0 := by decide
  rcases rng x 0 9 (by decide) (by decide) with h | ⟨k, _, hk, rfl⟩
  · have h' : ¬ (0 ≤ x ∧ x ≤ 9) := h
    refine ⟨-1, S, hI.mono, fun M Q hX hQ => ?_, fun M Q hY hQ => ?_⟩
    · show kE 29 0 [.ref 0, .int x, .int y, .null] [] M Q
      simp only [e29_0, e29_1, e29_4, e29_7, e29_8, e29_9, e29_12, e29_15, e29_18, e29_19, e29_20, e29_21, e29_24, e29_25, e29_28, e29_31, e29_32, e29_33, e29_34, e29_35, e29_38, e29_41, e29_42, e29_43, e29_44, e29_45, eq_self, kcat_nil, kcat_int, kcat_long, kcat_ref, kNL_int, kNL_ref, kNL_null, Option.toList_some, Option.toList_none, List.nil_append, List.cons_append, Nat.reduceAdd, Nat.reduceLeDiff, Nat.reduceEqDiff, true_and, and_true, true_or, or_true, false_or, or_false, ite_true, ite_false, x_isClass, h', if_false, if_true]
      exact hQ M hX Fx.rfl'
    · show kE 70 0 [.ref 166, .int x, .int y, .null] [] M Q
      simp only [e70_0, e70_1, e70_2, e70_4, e70_7, e70_10, e70_11, e70_12, e70_15, e70_18, e70_21, e70_22, e70_23, e70_24, e70_27, e70_28, e70_31, e70_32, e70_33, e70_34, e70_35, e70_36, e70_37, e70_40, e70_41, e70_42, e70_43, e70_44, e70_45, e70_46, eq_self, kcat_nil, kcat_int, kcat_long, kcat_ref, kNL_int, kNL_ref, kNL_null, Option.toList_some, Option.toList_none, List.nil_append, List.cons_append, Nat.reduceAdd, Nat.reduceLeDiff, Nat.reduceEqDiff, true_and, and_true, true_or, or_true, false_or, or_false, ite_true, ite_false, y_in, h', if_false, if_true]
      exact hQ M hY Fy.rfl'
  rcases rng y 0 9999 (by decide) (by decide) with h | ⟨v, _, hv, rfl⟩
  · have h' : ¬ (0 ≤ y ∧ y ≤ 9999) := h
    have c : (0 : Int32) ≤ nI k ∧ nI k ≤ 9 := rng_in (by omega) hk (by decide)
    refine ⟨-1, S, hI.mono, fun M Q hX hQ => ?_, fun M Q hY hQ => ?_⟩
    · show kE 29 0 [.ref 0, .int (nI k), .int y, .null] [] M Q
      simp only [e29_0, e29_1, e29_4, e29_7, e29_8, e29_9, e29_12, e29_15, e29_18, e29_19, e29_20, e29_21, e29_24, e29_25, e29_28, e29_31, e29_32, e29_33, e29_34, e29_35, e29_38, e29_41, e29_42, e29_43, e29_44, e29_45, eq_self, kcat_nil, kcat_int, kcat_long, kcat_ref, kNL_int, kNL_ref, kNL_null, Option.toList_some, Option.toList_none, List.nil_append, List.cons_append, Nat.reduceAdd, Nat.reduceLeDiff, Nat.reduceEqDiff, true_and, and_true, true_or, or_true, false_or, or_false, ite_true, ite_false, x_isClass, x_isIn, h', c, and_self, n10, if_false, if_true, not_true_eq_false]
      exact hQ M hX Fx.rfl'
    · show kE 70 0 [.ref 166, .int (nI k), .int y, .null] [] M Q
      simp only [e70_0, e70_1, e70_2, e70_4, e70_7, e70_10, e70_11, e70_12, e70_15, e70_18, e70_21, e70_22, e70_23, e70_24, e70_27, e70_28, e70_31, e70_32, e70_33, e70_34, e70_35, e70_36, e70_37, e70_40, e70_41, e70_42, e70_43, e70_44, e70_45, e70_46, eq_self, kcat_nil, kcat_int, kcat_long, kcat_ref, kNL_int, kNL_ref, kNL_null, Option.toList_some, Option.toList_none, List.nil_append, List.cons_append, Nat.reduceAdd, Nat.reduceLeDiff, Nat.reduceEqDiff, true_and, and_true, true_or, or_true, false_or, or_false, ite_true, ite_false, y_in, h', c, and_self, n10, if_false, if_true, not_true_eq_false]
      exact hQ M hY Fy.rfl'
  have c : (0 : Int32) ≤ nI k ∧ nI k ≤ 9 := rng_in (by omega) hk (by decide)
  have c2 : (0 : Int32) ≤ nI v ∧ nI v ≤ 9999 := rng_in (by omega) hv (by decide)
  refine ⟨nI (S.1 k), (nu S.1 k v, (sav S).2), hI.sav.cur (hI.1.mono.nu_smp (by omega) hv), fun M Q hX hQ => ?_, fun M Q hY hQ => ?_⟩
  · show kE 29 0 [.ref 0, .int (nI k), .int (nI v), .null] [] M Q
    simp only [e29_0, e29_1, e29_4, e29_7, e29_8, e29_9, e29_12, e29_15, e29_18, e29_19, e29_20, e29_21, e29_24, e29_25, e29_28, e29_31, e29_32, e29_33, e29_34, e29_35, e29_38, e29_41, e29_42, e29_43, e29_44, e29_45, eq_self, kcat_nil, kcat_int, kcat_long, kcat_ref, kNL_int, kNL_ref, kNL_null, Option.toList_some, Option.toList_none, List.nil_append, List.cons_append, Nat.reduceAdd, Nat.reduceLeDiff, Nat.reduceEqDiff, true_and, and_true, true_or, or_true, false_or, or_false, ite_true, ite_false, x_isClass, x_isIn, c, c2, and_self, n10, if_false, if_true, not_false_eq_true, tp5]
    refine x_saveState hX hI.1.f49 (fun M1 hX1 hF _ _ _ => ?_)
    have hR := hX1.1
    have e : M1 2 k = nI (S.1 k) := hR.smp (by omega)
    simp only [e29_0, e29_1, e29_4, e29_7, e29_8, e29_9, e29_12, e29_15, e29_18, e29_19, e29_20, e29_21, e29_24, e29_25, e29_28, e29_31, e29_32, e29_33, e29_34, e29_35, e29_38, e29_41, e29_42, e29_43, e29_44, e29_45, eq_self, kcat_nil, kcat_int, kcat_long, kcat_ref, kNL_int, kNL_ref, kNL_null, Option.toList_some, Option.toList_none, List.nil_append, List.cons_append, Nat.reduceAdd, Nat.reduceLeDiff, Nat.reduceEqDiff, true_and, and_true, true_or, or_true, false_or, or_false, ite_true, ite_false, tp1, tp5, tp18, tp20, tp25, tp30, kin_nI (show k < 10 by omega) (by decide), clN (show k < 2 ^ 31 by omega), e]
    have s := hR.setSmp (show k < 10 by omega) (nI v)
    rw [nr_upd] at s
    exact hQ _ (hX1.cur (Off.rfl'.mset (by decide) (by decide)) s) (hF.mset (by decide) _)
  · show kE 70 0 [.ref 166, .int (nI k), .int (nI v), .null] [] M Q
    simp only [e70_0, e70_1, e70_2, e70_4, e70_7, e70_10, e70_11, e70_12, e70_15, e70_18, e70_21, e70_22, e70_23, e70_24, e70_27, e70_28, e70_31, e70_32, e70_33, e70_34, e70_35, e70_36, e70_37, e70_40, e70_41, e70_42, e70_43, e70_44, e70_45, e70_46, eq_self, kcat_nil, kcat_int, kcat_long, kcat_ref, kNL_int, kNL_ref, kNL_null, Option.toList_some, Option.toList_none, List.nil_append, List.cons_append, Nat.reduceAdd, Nat.reduceLeDiff, Nat.reduceEqDiff, true_and, and_true, true_or, or_true, false_or, or_false, ite_true, ite_false, y_in, c, c2, and_self, n10, if_false, if_true, not_false_eq_true, my1]
    refine y_notes hY (fun M1 hY1 hF _ _ _ => ?_)
    have z0 : (0 : Int32) + nI k = nI k := Int32.zero_add _
    simp only [e70_0, e70_1, e70_2, e70_4, e70_7, e70_10, e70_11, e70_12, e70_15, e70_18, e70_21, e70_22, e70_23, e70_24, e70_27, e70_28, e70_31, e70_32, e70_33, e70_34, e70_35, e70_36, e70_37, e70_40, e70_41, e70_42, e70_43, e70_44, e70_45, e70_46, eq_self, kcat_nil, kcat_int, kcat_long, kcat_ref, kNL_int, kNL_ref, kNL_null, Option.toList_some, Option.toList_none, List.nil_append, List.cons_append, Nat.reduceAdd, Nat.reduceLeDiff, Nat.reduceEqDiff, true_and, and_true, true_or, or_true, false_or, or_false, ite_true, ite_false, my1, my2, my7, my12, z0, kin_nI (show k < 137 by omega) (by decide), clN (show k < 2 ^ 31 by omega), hY1.1 k (by omega)]
    exact hQ _ (hY1.cur (OffY.rfl'.set _ _) (hY1.1.set k v)) (hF.trans (OffY.rfl'.set _ _).fy)
