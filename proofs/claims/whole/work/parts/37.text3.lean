/-! the text: the reference's reading -/
theorem bb_and : ∀ k, k < 256 → k_i2b (nI k) &&& 255 = nI k := by decide +kernel
theorem bb_32 : ∀ k, k < 256 → (k_i2b (nI k) = 32 ↔ k = 32) := by decide +kernel
theorem bb_dg : ∀ k, k < 256 → ((48 ≤ k_i2b (nI k) ∧ k_i2b (nI k) ≤ 57) ↔ (48 ≤ k ∧ k ≤ 57)) := by decide +kernel
theorem bb_eq : ∀ k, k < 256 → 48 ≤ k → k ≤ 57 → k_i2b (nI k) = nI k := by decide +kernel
theorem bb_sz : ∀ k, k < 256 → ((0 ≤ nI k - 48 ∧ nI k - 48 ≤ 9) ↔ (48 ≤ k ∧ k ≤ 57)) := by decide +kernel
theorem skG_id (tx : Nat → Nat) : ∀ d i d', i + d = skG tx d i + d' → skG tx d' (skG tx d i) = skG tx d i := by
  intro d
  induction d with
  | zero =>
    intro i d' h
    rw [skG] at h
    have : d' = 0 := by omega
    subst this
    rfl
  | succ d ih =>
    intro i d' h
    rw [skG] at h ⊢
    by_cases h1 : tx i = 32
    · rw [if_pos h1] at h ⊢
      exact ih (i + 1) d' (by omega)
    · rw [if_neg h1] at h ⊢
      have : d' = d + 1 := by omega
      subst this
      rw [skG, if_neg h1]
theorem skN_id {len : Nat} {tx : Nat → Nat} {i : Nat} (h : i ≤ len) : skN len tx (skN len tx i) = skN len tx i := by
  have := skG_le tx (len - i) i
  unfold skN
  exact skG_id tx (len - i) i _ (by omega)
def capG (tx : Nat → Nat) (i : Nat) : Nat → Nat
  | 0 => 0
  | n + 1 => if capG tx i n < 100000 then 10 * capG tx i n + (tx (i + n) - 48) else capG tx i n
theorem capG_le (tx : Nat → Nat) (i : Nat) : ∀ n, (∀ j, j < n → tx (i + j) ≤ 57) → capG tx i n < 1000009 := by
  intro n
  induction n with
  | zero => intro _; rw [capG]; omega
  | succ n ih =>
    intro h
    have a := ih (fun j hj => h j (by omega))
    have b := h n (by omega)
    rw [capG]
    split <;> omega
theorem capG_va (tx : Nat → Nat) (i : Nat) : ∀ n, n ≤ 4 → (∀ j, j < n → tx (i + j) ≤ 57) → capG tx i n = vaG tx i n := by
  intro n
  induction n with
  | zero => intro _ _; rfl
  | succ n ih =>
    intro hn h
    have a := vaG_lt tx i n (fun j hj => h j (by omega))
    have b : 10 ^ n ≤ 10 ^ 3 := Nat.pow_le_pow_right (by decide) (by omega)
    rw [capG, vaG, ih (by omega) (fun j hj => h j (by omega)), if_pos (by omega)]
    omega
def WY (len : Nat) (tx : Nat → Nat) (M0 M : KMem) : Prop := M 166 4 = nI len ∧ (∀ j, j < len → M 169 j = k_i2b (nI (tx j))) ∧ (∀ c, c ≠ 166 → c ≠ 171 → M c = M0 c) ∧ (∀ j, j ≠ 7 → M 166 j = M0 166 j)
def PY (len : Nat) (tx g : Nat → Nat) (i : Nat) (M0 M : KMem) : Prop := WY len tx M0 M ∧ M 166 7 = nI i ∧ (∀ s, s < 10 → M 171 s = nI (g s) - 1)
section PY
variable {len : Nat} {tx g : Nat → Nat} {i : Nat} {M0 M : KMem} {Q : Option Value → KMem → Prop}
theorem WY.nxt (h : WY len tx M0 M) (v : Int32) : WY len tx M0 (mset M 166 7 v) := by
  obtain ⟨h1, h2, h3, h4⟩ := h
  exact ⟨by rw [mset_ne (by omega)]; exact h1, fun j hj => by rw [mset_off (by decide)]; exact h2 j hj, fun c c1 c2 => by rw [mset_off c1]; exact h3 c c1 c2, fun j hj => by rw [mset_ne (by omega)]; exact h4 j hj⟩
theorem WY.tol (h : WY len tx M0 M) (s : Nat) (v : Int32) : WY len tx M0 (mset M 171 s v) := by
  obtain ⟨h1, h2, h3, h4⟩ := h
  exact ⟨by rw [mset_off (by decide)]; exact h1, fun j hj => by rw [mset_off (by decide)]; exact h2 j hj, fun c c1 c2 => by rw [mset_off c2]; exact h3 c c1 c2, fun j hj => by rw [mset_off (by decide)]; exact h4 j hj⟩
theorem PY.mov (h : PY len tx g i M0 M) (j : Nat) : PY len tx g j M0 (mset M 166 7 (nI j)) := ⟨h.1.nxt _, mset_eq _ _ _ _, fun s hs => by rw [mset_off (by decide)]; exact h.2.2 s hs⟩
theorem y_here (hT : TxOk len tx) (hi : i ≤ len) (h : PY len tx g i M0 M) (hQ : ∀ M', PY len tx g (skN len tx i) M0 M' → Q (some (.int (if skN len tx i < len then nI (tx (skN len tx i)) else -1))) M') : kE 80 0 [.ref 166] [] M Q := by
  have hl := hT.1
  have fin : ∀ k, k ≤ len → ∀ M, PY len tx g k M0 M → (∀ M', PY len tx g k M0 M' → Q (some (.int (if k < len then nI (tx k) else -1))) M') → kE 80 38 [.ref 166] [] M Q := by
    intro k hk M h hQ
    have e4 := h.1.1
    have e7 := h.2.1
    have zl : (nI len ≤ nI k) ↔ len ≤ k := nI_le_iff (by omega) (by omega)
    have hq := hQ M h
    rw [e80_38]
    by_cases hlt : k < len
    · have nl : ¬ len ≤ k := by omega
      have es := h.1.2.1 k hlt
      have ba := bb_and (tx k) (by have := hT.2 k hlt; omega)
      rw [if_pos hlt] at hq
      simp only [e80_0, e80_1, e80_4, e80_5, e80_8, e80_11, e80_12, e80_15, e80_16, e80_19, e80_20, e80_22, e80_25, e80_26, e80_26r, e80_27, e80_30, e80_31, e80_32, e80_35, e80_39, e80_42, e80_43, e80_46, e80_49, e80_50, e80_53, e80_54, e80_57, e80_58, e80_61, e80_62, e80_65, e80_66, eq_self, kcat_nil, kcat_int, kcat_long, kcat_ref, kNL_int, kNL_ref, kNL_null, Option.toList_some, Option.toList_none, List.nil_append, List.cons_append, Nat.reduceAdd, Nat.reduceLeDiff, Nat.reduceEqDiff, true_and, and_true, true_or, or_true, false_or, or_false, ite_true, ite_false, my1, my4, my9, my14, e4, e7, zl, nl, if_false, kin_nI (show k < 80 by omega) (by decide), clN (show k < 2 ^ 31 by omega), es, ba]
      exact hq
    · have nl : len ≤ k := by omega
      rw [if_neg hlt] at hq
      simp only [e80_0, e80_1, e80_4, e80_5, e80_8, e80_11, e80_12, e80_15, e80_16, e80_19, e80_20, e80_22, e80_25, e80_26, e80_26r, e80_27, e80_30, e80_31, e80_32, e80_35, e80_39, e80_42, e80_43, e80_46, e80_49, e80_50, e80_53, e80_54, e80_57, e80_58, e80_61, e80_62, e80_65, e80_66, eq_self, kcat_nil, kcat_int, kcat_long, kcat_ref, kNL_int, kNL_ref, kNL_null, Option.toList_some, Option.toList_none, List.nil_append, List.cons_append, Nat.reduceAdd, Nat.reduceLeDiff, Nat.reduceEqDiff, true_and, and_true, true_or, or_true, false_or, or_false, ite_true, ite_false, my1, e4, e7, zl, nl, if_true]
      exact hq
  have loop : ∀ d i, i + d = len → ∀ M, PY len tx g i M0 M → (∀ M', PY len tx g (skG tx d i) M0 M' → Q (some (.int (if skG tx d i < len then nI (tx (skG tx d i)) else -1))) M') → kE 80 0 [.ref 166] [] M Q := by
    intro d
    induction d with
    | zero =>
      intro i hd M h hQ
      have e4 := h.1.1
      have e7 := h.2.1
      have zl : (nI len ≤ nI i) ↔ len ≤ i := nI_le_iff (by omega) (by omega)
      have nl : len ≤ i := by omega
      rw [e80_0]
      simp only [e80_1, e80_4, e80_5, e80_8, e80_11, e80_12, e80_15, e80_16, e80_19, e80_20, e80_22, e80_25, e80_26, e80_26r, e80_27, e80_30, e80_31, e80_32, e80_35, e80_39, e80_42, e80_43, e80_46, e80_49, e80_50, e80_53, e80_54, e80_57, e80_58, e80_61, e80_62, e80_65, e80_66, eq_self, kcat_nil, kcat_int, kcat_long, kcat_ref, kNL_int, kNL_ref, kNL_null, Option.toList_some, Option.toList_none, List.nil_append, List.cons_append, Nat.reduceAdd, Nat.reduceLeDiff, Nat.reduceEqDiff, true_and, and_true, true_or, or_true, false_or, or_false, ite_true, ite_false, my1, e4, e7, zl, nl, if_true]
      exact fin i (by omega) M h hQ
    | succ d ih =>
      intro i hd M h hQ
      have e4 := h.1.1
      have e7 := h.2.1
      have zl : (nI len ≤ nI i) ↔ len ≤ i := nI_le_iff (by omega) (by omega)
      have nl : ¬ len ≤ i := by omega
      have hlt : i < len := by omega
      have es := h.1.2.1 i hlt
      have b32 := bb_32 (tx i) (by have := hT.2 i hlt; omega)
      rw [skG] at hQ
      rw [e80_0]
      simp only [e80_1, e80_4, e80_5, e80_8, e80_11, e80_12, e80_15, e80_16, e80_19, e80_20, e80_22, e80_25, e80_26, e80_26r, e80_27, e80_30, e80_31, e80_32, e80_35, e80_39, e80_42, e80_43, e80_46, e80_49, e80_50, e80_53, e80_54, e80_57, e80_58, e80_61, e80_62, e80_65, e80_66, eq_self, kcat_nil, kcat_int, kcat_long, kcat_ref, kNL_int, kNL_ref, kNL_null, Option.toList_some, Option.toList_none, List.nil_append, List.cons_append, Nat.reduceAdd, Nat.reduceLeDiff, Nat.reduceEqDiff, true_and, and_true, true_or, or_true, false_or, or_false, ite_true, ite_false, my1, my4, my9, my14, e4, e7, zl, nl, if_false, kin_nI (show i < 80 by omega) (by decide), clN (show i < 2 ^ 31 by omega), es, b32, nI_add1]
      by_cases h1 : tx i = 32
      · rw [if_neg (fun z => z h1)]
        rw [if_pos h1] at hQ
        exact ih (i + 1) (by omega) _ (h.mov (i + 1)) hQ
      · rw [if_pos h1]
        rw [if_neg h1] at hQ
        exact fin i (by omega) M h hQ
  exact loop (len - i) i (by omega) M h hQ
end PY
