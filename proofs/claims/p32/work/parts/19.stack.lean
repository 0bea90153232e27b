/-! apertures: as a row of their own -/
def apM (o : Nat) (M : KMem) (f : Nat → Int32) : KMem := fun c => if o + 6 ≤ c ∧ c < o + 20 ∧ (c - o) % 2 = 0 then upd (M c) 1 (f ((c - o - 6) / 2)) else M c
theorem apM_self (o : Nat) (M : KMem) : apM o M (fun t => M (o + 6 + 2 * t) 1) = M := by
  funext c
  unfold apM
  by_cases h : o + 6 ≤ c ∧ c < o + 20 ∧ (c - o) % 2 = 0
  · rw [if_pos h]
    funext j
    unfold upd
    by_cases hj : j = 1
    · rw [if_pos hj, hj]
      dsimp only
      rw [show o + 6 + 2 * ((c - o - 6) / 2) = c from by omega]
    · rw [if_neg hj]
  · rw [if_neg h]
theorem apM_at {o t : Nat} {M : KMem} {f : Nat → Int32} (ht : t < 7) : apM o M f (o + 6 + 2 * t) 1 = f t := by
  unfold apM
  rw [if_pos (by omega), show (o + 6 + 2 * t - o - 6) / 2 = t from by omega]
  exact if_pos rfl
theorem apM_off {o c : Nat} {M : KMem} {f : Nat → Int32} (h : ¬ (o + 6 ≤ c ∧ c < o + 20 ∧ (c - o) % 2 = 0)) : apM o M f c = M c := if_neg h
theorem apM_ne {o c j : Nat} {M : KMem} {f : Nat → Int32} (h : j ≠ 1) : apM o M f c j = M c j := by
  unfold apM
  split
  · exact if_neg h
  · rfl
theorem apM_set {o t : Nat} {M : KMem} {f : Nat → Int32} {v : Int32} (ht : t < 7) : mset (apM o M f) (o + 6 + 2 * t) 1 v = apM o M (upd f t v) := by
  funext c
  by_cases hc : c = o + 6 + 2 * t
  · subst hc
    rw [mset_row]
    unfold apM
    rw [if_pos (by omega), if_pos (by omega), show (o + 6 + 2 * t - o - 6) / 2 = t from by omega]
    funext j
    unfold upd
    by_cases hj : j = 1
    · rw [if_pos hj, if_pos hj, if_pos rfl]
    · rw [if_neg hj, if_neg hj, if_neg hj]
  · rw [mset_off hc]
    unfold apM
    by_cases h : o + 6 ≤ c ∧ c < o + 20 ∧ (c - o) % 2 = 0
    · rw [if_pos h, if_pos h]
      have : upd f t v ((c - o - 6) / 2) = f ((c - o - 6) / 2) := if_neg (by omega)
      rw [this]
    · rw [if_neg h, if_neg h]
theorem upd_nI {f : Nat → Nat} {t v : Nat} : upd (fun t => nI (f t)) t (nI v) = fun s => nI (nu f t v s) := by
  funext s
  unfold upd nu
  split <;> rfl
/-- the memory with other apertures and another number of sieves -/
theorem StR.stack {o : Nat} {M : KMem} {p q : NR} {f : Nat → Nat} (h : StR o M (nr p)) (hq : ∀ i, i < 137 → ¬ isAp i → i ≠ 24 → q i = p i) (hn : q 24 ≤ 6) (h1 : ∀ t, t < 6 → t < q 24 → f t = q (25 + t)) (h2 : ∀ t, t < 7 → q 24 ≤ t → f t = 0) {v : Int32} (hv : v = nI (q 24)) :
    StR o (mset (apM o M (fun t => nI (f t))) o 5 v) (nr q) := by
  subst hv
  have hc : (nr q 24).toNatClampNeg = q 24 := nI_clamp (by omega)
  have la5 : ∀ i, i < 137 → la i = 0 → lb i = 5 → i = 24 := by decide +kernel
  have la1 : ∀ i, i < 137 → 6 ≤ la i → la i % 2 = 0 → lb i = 1 → isAp' i = true := by decide +kernel
  refine ⟨fun i hi ha => ?_, fun t ht hs => ?_, fun t ht hs => ?_⟩
  · by_cases h24 : i = 24
    · subst h24
      exact mset_eq _ _ _ _
    · have hl := la_lt i hi
      rw [mset_ne (fun z => h24 (la5 i hi (by omega) z.2))]
      have e : apM o M (fun t => nI (f t)) (o + la i) (lb i) = M (o + la i) (lb i) := by
        by_cases hb : lb i = 1
        · rw [apM_off]
          intro z
          have := la1 i hi (by omega) (by omega) hb
          unfold isAp' at this
          simp only [Bool.and_eq_true, decide_eq_true_eq] at this
          exact ha this
        · exact apM_ne hb
      rw [e, h.1 i hi ha]
      unfold nr
      rw [hq i hi ha h24]
  · rw [hc] at hs
    rw [mset_off (by omega), apM_at (by omega), h1 t ht hs]
    rfl
  · rw [hc] at hs
    rw [mset_off (by omega), apM_at ht, h2 t ht hs]
    rfl
def insG (a : Nat) : Nat → (Nat → Nat) → (Nat → Nat)
  | 0, g => nu g 0 a
  | t + 1, g => if g t < a then insG a t (nu g (t + 1) (g t)) else nu g (t + 1) a
def posG (a : Nat) : Nat → (Nat → Nat) → Nat
  | 0, _ => 0
  | t + 1, g => if g t < a then posG a t (nu g (t + 1) (g t)) else t + 1
theorem insG_above {a : Nat} : ∀ (n : Nat) (g : Nat → Nat) (t : Nat), n < t → insG a n g t = g t := by
  intro n
  induction n with
  | zero => intro g t h; exact nu_ne (by omega)
  | succ n ih =>
    intro g t h
    rw [insG]
    split
    · rw [ih _ t (by omega), nu_ne (by omega)]
    · exact nu_ne (by omega)
theorem insG_agree {a : Nat} : ∀ (n : Nat) (g g' : Nat → Nat), (∀ t, t < n → g t = g' t) → ∀ t, t ≤ n → insG a n g t = insG a n g' t := by
  intro n
  induction n with
  | zero =>
    intro g g' _ t ht
    have : t = 0 := by omega
    subst this
    rw [insG, insG, nu_eq, nu_eq]
  | succ n ih =>
    intro g g' h t ht
    rw [insG, insG, h n (by omega)]
    split
    · by_cases htn : t ≤ n
      · exact ih _ _ (fun s hs => by rw [nu_ne (by omega), nu_ne (by omega)]; exact h s (by omega)) t htn
      · have : t = n + 1 := by omega
        subst this
        rw [insG_above n _ _ (by omega), insG_above n _ _ (by omega), nu_eq, nu_eq]
    · by_cases htn : t = n + 1
      · subst htn; rw [nu_eq, nu_eq]
      · rw [nu_ne htn, nu_ne htn]; exact h t (by omega)
theorem posG_agree {a : Nat} : ∀ (n : Nat) (g g' : Nat → Nat), (∀ t, t < n → g t = g' t) → posG a n g = posG a n g' := by
  intro n
  induction n with
  | zero => intro g g' _; rfl
  | succ n ih =>
    intro g g' h
    rw [posG, posG, h n (by omega)]
    split
    · exact ih _ _ (fun s hs => by rw [nu_ne (by omega), nu_ne (by omega)]; exact h s (by omega))
    · rfl
theorem posG_le {a : Nat} : ∀ (n : Nat) (g : Nat → Nat), posG a n g ≤ n := by
  intro n
  induction n with
  | zero => intro g; exact Nat.le_refl _
  | succ n ih =>
    intro g
    rw [posG]
    split
    · have := ih (nu g (n + 1) (g n)); omega
    · exact Nat.le_refl _
theorem nu_le {g : Nat → Nat} {i v c : Nat} (hv : v ≤ c) (h : ∀ s, g s ≤ c) (t : Nat) : nu g i v t ≤ c := by
  unfold nu
  split
  · exact hv
  · exact h t
theorem insG_le {a c : Nat} (ha : a ≤ c) : ∀ (n : Nat) (g : Nat → Nat), (∀ t, g t ≤ c) → ∀ t, insG a n g t ≤ c := by
  intro n
  induction n with
  | zero =>
    intro g h t
    exact nu_le ha h t
  | succ n ih =>
    intro g h t
    rw [insG]
    split
    · exact ih _ (nu_le (h n) h) t
    · exact nu_le ha h t
theorem insG_ge {a : Nat} (ha : 1 ≤ a) : ∀ (n : Nat) (g : Nat → Nat), (∀ t, t < n → 1 ≤ g t) → ∀ t, t ≤ n → 1 ≤ insG a n g t := by
  intro n
  induction n with
  | zero =>
    intro g _ t ht
    have : t = 0 := by omega
    subst this
    rw [insG, nu_eq]; exact ha
  | succ n ih =>
    intro g h t ht
    rw [insG]
    split
    · by_cases htn : t ≤ n
      · exact ih _ (fun s hs => by rw [nu_ne (by omega)]; exact h s (by omega)) t htn
      · have : t = n + 1 := by omega
        subst this
        rw [insG_above n _ _ (by omega), nu_eq]
        exact h n (by omega)
    · by_cases htn : t = n + 1
      · subst htn; rw [nu_eq]; exact ha
      · rw [nu_ne htn]; exact h t (by omega)
def insN (p : NR) (a : Nat) : NR := fun i => if i = 24 then p 24 + 1 else if 25 ≤ i ∧ i < 31 then insG a (p 24) (fun t => p (25 + t)) (i - 25) else p i
def takN (p : NR) (k : Nat) : NR := fun i => if i = 24 then p 24 - 1 else if 25 ≤ i ∧ i < 31 then (if k ≤ i - 25 ∧ i - 25 < p 24 - 1 then p (i + 1) else p i) else p i
theorem x_insertSieve {o a : Nat} {M : KMem} {p : NR} {Q : Option Value → KMem → Prop} (ho : isSt o) (hR : StR o M (nr p)) (hn : p 24 < 6) (ha : a ≤ 9) (hap : ∀ t, t < 6 → p (25 + t) ≤ 9)
    (hQ : ∀ M', StR o M' (nr (insN p a)) → Off o M M' → Q (some (.int (nI (posG a (p 24) (fun t => p (25 + t)))))) M') : kE 5 0 [.ref o, .int (nI a), .null] [] M Q := by
  have e24 : M o 5 = nI (p 24) := hR.f24
  have hcl : (nr p 24).toNatClampNeg = p 24 := nI_clamp (by omega)
  have nO : ∀ t, o + 6 + 2 * t ≠ o := fun t => by omega
  have loop : ∀ t, t ≤ 6 → ∀ g : Nat → Nat, (∀ s, g s ≤ 9) → kE 5 5 [.ref o, .int (nI a), .int (nI t)] [] (apM o M (fun s => nI (g s))) Q = Q (some (.int (nI (posG a t g)))) (mset (apM o M (fun s => nI (insG a t g s))) o 5 (nI (p 24) + 1)) := by
    intro t
    induction t with
    | zero =>
      intro _ g hg
      have le : nI 0 ≤ 0 := by decide
      have oo : ¬ (o + 6 ≤ o ∧ o < o + 20 ∧ (o - o) % 2 = 0) := by omega
      rw [e5_5]
      simp only [e5_0, e5_1, e5_4, e5_6, e5_9, e5_10, e5_13, e5_14, e5_15, e5_16, e5_17, e5_20, e5_21, e5_24, e5_25, e5_28, e5_29, e5_30, e5_31, e5_34, e5_35, e5_36, e5_37, e5_38, e5_41, e5_44, e5_47, e5_50, e5_51, e5_54, e5_55, e5_56, e5_57, e5_60, e5_61, e5_61r, e5_62, e5_65, e5_66, e5_67, e5_70, e5_71, eq_self, kcat_nil, kcat_int, kcat_long, kcat_ref, kNL_int, kNL_ref, kNL_null, Option.toList_some, Option.toList_none, List.nil_append, List.cons_append, Nat.reduceAdd, Nat.reduceLeDiff, Nat.reduceEqDiff, true_and, and_true, true_or, or_true, false_or, or_false, ite_true, ite_false, le, kd_o ho, rf_o2 ho, kd_o3 ho, ln_o3 ho, kin_nI (show 0 < 7 by decide) (by decide), nI_clamp (show 0 < 2 ^ 31 by decide), rf_tr ho, kd_tr ho (show 0 < 7 by decide), apM_set (show 0 < 7 by decide), apM_off oo, e24, upd_nI, posG, insG]
    | succ t ih =>
      intro ht g hg
      have nle : ¬ nI (t + 1) ≤ 0 := by rw [show (0 : Int32) = nI 0 from rfl]; exact nI_ge (by omega) (by omega)
      have e1 : nI (t + 1) - 1 = nI t := by rw [show (1 : Int32) = nI 1 from rfl, pk_sub (by omega)]; rfl
      have e2 : nI (t + 1) + (-1) = nI t := pk_m1 t
      have hlt : (nI a ≤ nI (g t)) ↔ a ≤ g t := nI_le_iff (by omega) (by have := hg t; omega)
      have oo : ¬ (o + 6 ≤ o ∧ o < o + 20 ∧ (o - o) % 2 = 0) := by omega
      rw [e5_5]
      simp only [e5_0, e5_1, e5_4, e5_6, e5_9, e5_10, e5_13, e5_14, e5_15, e5_16, e5_17, e5_20, e5_21, e5_24, e5_25, e5_28, e5_29, e5_30, e5_31, e5_34, e5_35, e5_36, e5_37, e5_38, e5_41, e5_44, e5_47, e5_50, e5_51, e5_54, e5_55, e5_56, e5_57, e5_60, e5_61, e5_61r, e5_62, e5_65, e5_66, e5_67, e5_70, e5_71, eq_self, kcat_nil, kcat_int, kcat_long, kcat_ref, kNL_int, kNL_ref, kNL_null, Option.toList_some, Option.toList_none, List.nil_append, List.cons_append, Nat.reduceAdd, Nat.reduceLeDiff, Nat.reduceEqDiff, true_and, and_true, true_or, or_true, false_or, or_false, ite_true, ite_false, nle, if_false, kd_o ho, rf_o2 ho, kd_o3 ho, ln_o3 ho, e1, e2, kin_nI (show t < 7 by omega) (by decide), kin_nI (show t + 1 < 7 by omega) (by decide), nI_clamp (show t < 2 ^ 31 by omega), nI_clamp (show t + 1 < 2 ^ 31 by omega), rf_tr ho, kd_tr ho (show t < 7 by omega), kd_tr ho (show t + 1 < 7 by omega), apM_at (show t < 7 by omega), apM_set (show t + 1 < 7 by omega), hlt, upd_nI, apM_off oo, e24, posG, insG]
      by_cases h : g t < a
      · rw [if_neg (by omega), if_pos h, if_pos h]
        exact ih (by omega) (nu g (t + 1) (g t)) (nu_le (hg t) hg)
      · rw [if_pos (by omega), if_neg h, if_neg h]
  have hM : M = apM o M (fun t => nI (if t < p 24 then p (25 + t) else 0)) := by
    refine (apM_self o M).symm.trans ?_
    funext c
    unfold apM
    by_cases h : o + 6 ≤ c ∧ c < o + 20 ∧ (c - o) % 2 = 0
    · rw [if_pos h, if_pos h]
      dsimp only
      by_cases hs : (c - o - 6) / 2 < p 24
      · rw [if_pos hs, hR.2.1 _ (by omega) (by rw [hcl]; exact hs)]
        rfl
      · rw [if_neg hs, hR.2.2 _ (by omega) (by rw [hcl]; omega)]
        rfl
    · rw [if_neg h, if_neg h]
  have hg9 : ∀ s, (if s < p 24 then p (25 + s) else 0) ≤ 9 := fun s => by
    split
    · exact hap s (by omega)
    · omega
  have L := loop (p 24) (by omega) (fun t => if t < p 24 then p (25 + t) else 0) hg9
  rw [← hM] at L
  simp only [e5_0, e5_1, e5_4, e5_6, e5_9, e5_10, e5_13, e5_14, e5_15, e5_16, e5_17, e5_20, e5_21, e5_24, e5_25, e5_28, e5_29, e5_30, e5_31, e5_34, e5_35, e5_36, e5_37, e5_38, e5_41, e5_44, e5_47, e5_50, e5_51, e5_54, e5_55, e5_56, e5_57, e5_60, e5_61, e5_61r, e5_62, e5_65, e5_66, e5_67, e5_70, e5_71, eq_self, kcat_nil, kcat_int, kcat_long, kcat_ref, kNL_int, kNL_ref, kNL_null, Option.toList_some, Option.toList_none, List.nil_append, List.cons_append, Nat.reduceAdd, Nat.reduceLeDiff, Nat.reduceEqDiff, true_and, and_true, true_or, or_true, false_or, or_false, ite_true, ite_false, kd_o ho, e24]
  rw [L]
  have ag : ∀ t, t < p 24 → (if t < p 24 then p (25 + t) else 0) = p (25 + t) := fun t ht => if_pos ht
  rw [posG_agree (p 24) (fun t => if t < p 24 then p (25 + t) else 0) (fun t => p (25 + t)) ag]
  have ei : insN p a 24 = p 24 + 1 := if_pos rfl
  refine hQ _ (hR.stack (q := insN p a) (f := insG a (p 24) (fun t => if t < p 24 then p (25 + t) else 0)) ?_ ?_ ?_ ?_ ?_) ?_
  · intro i _ ha h24
    unfold insN
    rw [if_neg h24, if_neg (show ¬ (25 ≤ i ∧ i < 31) from ha)]
  · rw [ei]; omega
  · intro t ht hs
    rw [ei] at hs
    unfold insN
    rw [if_neg (by omega), if_pos (by omega), show 25 + t - 25 = t from by omega]
    exact insG_agree (p 24) _ _ ag t (by omega)
  · intro t ht hs
    rw [ei] at hs
    rw [insG_above _ _ _ (by omega), if_neg (by omega)]
  · rw [ei, nI_add1]
  · intro c hc
    rw [mset_off (by omega), apM_off (by omega)]
theorem x_takeSieve {o k : Nat} {M : KMem} {p : NR} {Q : Option Value → KMem → Prop} (ho : isSt o) (hR : StR o M (nr p)) (hn : p 24 ≤ 6) (hk : k < p 24)
    (hQ : ∀ M', StR o M' (nr (takN p k)) → Off o M M' → Q none M') : kE 6 0 [.ref o, .int (nI k), .null] [] M Q := by
  have e24 : M o 5 = nI (p 24) := hR.f24
  have hcl : (nr p 24).toNatClampNeg = p 24 := nI_clamp (by omega)
  have oo : ¬ (o + 6 ≤ o ∧ o < o + 20 ∧ (o - o) % 2 = 0) := by omega
  have hM : M = apM o M (fun t => nI (if t < p 24 then p (25 + t) else 0)) := by
    refine (apM_self o M).symm.trans ?_
    funext c
    unfold apM
    by_cases h : o + 6 ≤ c ∧ c < o + 20 ∧ (c - o) % 2 = 0
    · rw [if_pos h, if_pos h]
      dsimp only
      by_cases hs : (c - o - 6) / 2 < p 24
      · rw [if_pos hs, hR.2.1 _ (by omega) (by rw [hcl]; exact hs)]
        rfl
      · rw [if_neg hs, hR.2.2 _ (by omega) (by rw [hcl]; omega)]
        rfl
    · rw [if_neg h, if_neg h]
  obtain ⟨g, hg⟩ : ∃ g : Nat → Nat, g = fun t => if t < p 24 then p (25 + t) else 0 := ⟨_, rfl⟩
  have loop : ∀ d j, j + d = p 24 → k ≤ j → kE 6 2 [.ref o, .int (nI k), .int (nI j)] [] (apM o M (fun s => nI (if k ≤ s ∧ s < j then g (s + 1) else g s))) Q = Q none (mset (apM o M (fun s => nI (if k ≤ s ∧ s < p 24 then g (s + 1) else g s))) o 5 (nI (p 24) - 1)) := by
    intro d
    induction d with
    | zero =>
      intro j hj hkj
      have : j = p 24 := by omega
      subst this
      have le : nI (p 24) ≤ nI (p 24) := nI_le (Nat.le_refl _) (by omega)
      rw [e6_2]
      simp only [e6_0, e6_1, e6_3, e6_4, e6_7, e6_10, e6_11, e6_14, e6_15, e6_16, e6_17, e6_20, e6_21, e6_22, e6_23, e6_24, e6_27, e6_30, e6_33, e6_36, e6_37, e6_37r, e6_38, e6_41, e6_42, e6_43, e6_46, eq_self, kcat_nil, kcat_int, kcat_long, kcat_ref, kNL_int, kNL_ref, kNL_null, Option.toList_some, Option.toList_none, List.nil_append, List.cons_append, Nat.reduceAdd, Nat.reduceLeDiff, Nat.reduceEqDiff, true_and, and_true, true_or, or_true, false_or, or_false, ite_true, ite_false, le, kd_o ho, apM_off oo, e24]
    | succ d ih =>
      intro j hj hkj
      have nle : ¬ nI (p 24) ≤ nI j := nI_ge (by omega) (by omega)
      rw [← ih (j + 1) (by omega) (by omega), e6_2]
      simp only [e6_0, e6_1, e6_3, e6_4, e6_7, e6_10, e6_11, e6_14, e6_15, e6_16, e6_17, e6_20, e6_21, e6_22, e6_23, e6_24, e6_27, e6_30, e6_33, e6_36, e6_37, e6_37r, e6_38, e6_41, e6_42, e6_43, e6_46, eq_self, kcat_nil, kcat_int, kcat_long, kcat_ref, kNL_int, kNL_ref, kNL_null, Option.toList_some, Option.toList_none, List.nil_append, List.cons_append, Nat.reduceAdd, Nat.reduceLeDiff, Nat.reduceEqDiff, true_and, and_true, true_or, or_true, false_or, or_false, ite_true, ite_false, nle, if_false, kd_o ho, apM_off oo, e24, rf_o2 ho, kd_o3 ho, ln_o3 ho, nI_add1, kin_nI (show j < 7 by omega) (by decide), kin_nI (show j + 1 < 7 by omega) (by decide), nI_clamp (show j < 2 ^ 31 by omega), nI_clamp (show j + 1 < 2 ^ 31 by omega), rf_tr ho, kd_tr ho (show j < 7 by omega), kd_tr ho (show j + 1 < 7 by omega), apM_at (show j + 1 < 7 by omega), apM_set (show j < 7 by omega), upd_nI]
      have e : (fun s => nI (nu (fun s => if k ≤ s ∧ s < j then g (s + 1) else g s) j (if k ≤ j + 1 ∧ j + 1 < j then g (j + 1 + 1) else g (j + 1)) s)) = fun s => nI (if k ≤ s ∧ s < j + 1 then g (s + 1) else g s) := by
        funext s
        congr 1
        unfold nu
        dsimp only
        by_cases hs : s = j
        · rw [if_pos hs, if_neg (by omega), if_pos (by omega), hs]
        · rw [if_neg hs]
          by_cases h2 : k ≤ s ∧ s < j
          · rw [if_pos h2, if_pos (by omega)]
          · rw [if_neg h2, if_neg (by omega)]
      rw [e]
  have L := loop (p 24 - k) k (by omega) (Nat.le_refl _)
  have e0 : (fun s => nI (if k ≤ s ∧ s < k then g (s + 1) else g s)) = fun t => nI (if t < p 24 then p (25 + t) else 0) := by
    funext s
    rw [if_neg (by omega), hg]
  rw [e0, ← hM] at L
  simp only [e6_0, e6_1, e6_3, e6_4, e6_7, e6_10, e6_11, e6_14, e6_15, e6_16, e6_17, e6_20, e6_21, e6_22, e6_23, e6_24, e6_27, e6_30, e6_33, e6_36, e6_37, e6_37r, e6_38, e6_41, e6_42, e6_43, e6_46, eq_self, kcat_nil, kcat_int, kcat_long, kcat_ref, kNL_int, kNL_ref, kNL_null, Option.toList_some, Option.toList_none, List.nil_append, List.cons_append, Nat.reduceAdd, Nat.reduceLeDiff, Nat.reduceEqDiff, true_and, and_true, true_or, or_true, false_or, or_false, ite_true, ite_false]
  rw [L]
  have ei : takN p k 24 = p 24 - 1 := if_pos rfl
  refine hQ _ (hR.stack (q := takN p k) (f := fun s => if k ≤ s ∧ s < p 24 then g (s + 1) else g s) ?_ ?_ ?_ ?_ ?_) ?_
  · intro i _ ha h24
    unfold takN
    rw [if_neg h24, if_neg (show ¬ (25 ≤ i ∧ i < 31) from ha)]
  · rw [ei]; omega
  · intro t ht hs
    rw [ei] at hs
    unfold takN
    rw [if_neg (show ¬ 25 + t = 24 by omega), if_pos (show 25 ≤ 25 + t ∧ 25 + t < 31 by omega), hg]
    by_cases h : k ≤ t
    · rw [if_pos (show k ≤ t ∧ t < p 24 by omega), if_pos (show k ≤ 25 + t - 25 ∧ 25 + t - 25 < p 24 - 1 by omega)]
      show (if t + 1 < p 24 then p (25 + (t + 1)) else 0) = _
      rw [if_pos (by omega), Nat.add_assoc]
    · rw [if_neg (show ¬ (k ≤ t ∧ t < p 24) by omega), if_neg (show ¬ (k ≤ 25 + t - 25 ∧ 25 + t - 25 < p 24 - 1) by omega)]
      show (if t < p 24 then p (25 + t) else 0) = _
      rw [if_pos (by omega)]
  · intro t ht hs
    rw [ei] at hs
    rw [hg]
    by_cases h : k ≤ t ∧ t < p 24
    · rw [if_pos h]
      show (if t + 1 < p 24 then p (25 + (t + 1)) else 0) = _
      rw [if_neg (by omega)]
    · rw [if_neg h]
      show (if t < p 24 then p (25 + t) else 0) = _
      rw [if_neg (by omega)]
  · rw [ei, show (1 : Int32) = nI 1 from rfl, pk_sub (by omega)]
  · intro c hc
    rw [mset_off (by omega), apM_off (by omega)]
