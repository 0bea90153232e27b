/-! each call of the class: what it answers, and the state then -/
theorem kE_det {m pc : Nat} {ls st : List Value} {M M1 : KMem} {r : Option Value} (h : kE m pc ls st M (fun r' M' => r' = r ∧ M' = M1)) (Q : Option Value → KMem → Prop) : kE m pc ls st M Q = Q r M1 := by
  obtain ⟨f, o, h1, h2, h3⟩ := h
  apply propext
  constructor
  · rintro ⟨f', o', e1, e2⟩
    have a := krun_mono h1 (Nat.le_max_left f f')
    have b := krun_mono e1 (Nat.le_max_right f f')
    rw [a] at b
    cases b
    rw [← h2, ← h3]
    exact e2
  · intro hq
    exact ⟨f, o, h1, by rw [h2, h3]; exact hq⟩
/-- sieves from above have smaller and smaller apertures; below a sieve lies only what can pass it -/
def J (p : NR) : Prop := (∀ t, t + 1 < p 24 → p (25 + (t + 1)) < p (25 + t)) ∧ (∀ t k, t < p 24 → k < 10 → p (25 + t) ≤ k → p (53 + 12 * (t + 1) + k) = 0)
def KJ (p q : NR) : Prop := J p → J q
def Res (K : NR → NR → Prop) (S : KS) (r : Int32) (S' : KS) : Prop := (r < 0 ∧ S' = S) ∨ (0 ≤ r ∧ S'.2 = (sav S).2 ∧ K S.1 S'.1)
def XOK (K : NR → NR → Prop) (mx : Nat) (as : List Value) : Prop := ∀ (S : KS) (N : Nat), N < 512 → IS S N → ∃ (r : Int32) (S' : KS), IS S' (N + 1) ∧ Res K S r S' ∧ ∀ M Q, XR S M → (∀ M', XR S' M' → Fx M M' → Q (some (.int r)) M') → kE mx 0 (kent mx (.ref 0 :: as)) [] M Q
theorem Res.mono {K K' : NR → NR → Prop} {S S' : KS} {r : Int32} (h : Res K S r S') (hk : ∀ p q, K p q → K' p q) : Res K' S r S' := h.elim Or.inl (fun q => Or.inr ⟨q.1, q.2.1, hk _ _ q.2.2⟩)
theorem XOK.mono {K K' : NR → NR → Prop} {mx : Nat} {as : List Value} (h : XOK K mx as) (hk : ∀ p q, K p q → K' p q) : XOK K' mx as := fun S N hN hI => by
  obtain ⟨r, S', h1, h2, h3⟩ := h S N hN hI
  exact ⟨r, S', h1, h2.mono hk, h3⟩
/-- all from 24 on the same -/
theorem J.same {p q : NR} (h : ∀ i, 24 ≤ i → i < 137 → q i = p i) (hn : p 24 ≤ 6) (hJ : J p) : J q := by
  obtain ⟨h1, h2⟩ := hJ
  have e : q 24 = p 24 := h 24 (by decide) (by decide)
  refine ⟨fun t ht => ?_, fun t k ht hk ha => ?_⟩
  · rw [e] at ht
    rw [h _ (by omega) (by omega), h _ (by omega) (by omega)]
    exact h1 t ht
  · rw [e] at ht
    rw [h _ (by omega) (by omega)] at ha ⊢
    exact h2 t k ht hk ha
theorem rng (x : Int32) (lo hi : Nat) (h : hi < 2 ^ 30) (hl : lo < 2 ^ 30) : ¬ (nI lo ≤ x ∧ x ≤ nI hi) ∨ ∃ j, lo ≤ j ∧ j ≤ hi ∧ x = nI j := by
  by_cases hx : nI lo ≤ x ∧ x ≤ nI hi
  · right
    obtain ⟨h1, h2⟩ := hx
    rcases pk_ix x (n := hi + 1) (by omega) with q | q | ⟨j, q1, q2⟩
    · exfalso
      rw [Int32.le_iff_toInt_le, nI_toInt (by omega)] at h1
      rw [Int32.lt_iff_toInt_lt, Int32.toInt_zero] at q
      omega
    · exfalso
      rw [Int32.le_iff_toInt_le, nI_toInt (by omega)] at h2 q
      omega
    · subst q2
      rw [nI_le_iff (by omega) (by omega)] at h1
      exact ⟨j, h1, by omega, rfl⟩
  · exact Or.inl hx
theorem rng_in {lo hi j : Nat} (h1 : lo ≤ j) (h2 : j ≤ hi) (h : hi < 2 ^ 31) : nI lo ≤ nI j ∧ nI j ≤ nI hi := ⟨nI_le h1 (by omega), nI_le h2 h⟩
theorem Inv.mono {p : NR} {N : Nat} (h : Inv p N) : Inv p (N + 1) := by
  obtain ⟨h1, h2, h3, h4, h5, h6, h7, h8, h9, h10, h11, h12, h13, h14, h15, h16⟩ := h
  exact ⟨h1, fun k hk => Nat.le_trans (h2 k hk) (by omega), h3, h4, h5, h6, h7, h8, h9, h10, h11, h12, by omega, h14, h15, h16⟩
theorem IS.mono {S : KS} {N : Nat} (h : IS S N) : IS S (N + 1) := ⟨h.1.mono, fun j hj => (h.2.1 j hj).mono, h.2.2⟩
theorem IS.sav {S : KS} {N : Nat} (h : IS S N) : IS (sav S) (N + 1) := by
  obtain ⟨h1, h2, h3, h4, h5⟩ := h
  refine ⟨h1.mono, fun j hj => ?_, ?_, h4, h5⟩
  · have hj : j < min (S.2.1 + 1) 6 := hj
    show Inv (psS S.1 S.2.2.1 j) (N + 1)
    unfold psS
    split
    · exact h1.mono
    · exact (h2 _ (by omega)).mono
  · show min (S.2.1 + 1) 6 ≤ 6
    omega
theorem IS.cur {S : KS} {N : Nat} {p : NR} (h : IS S N) (hp : Inv p N) : IS (p, S.2) N := ⟨hp, h.2⟩
theorem Inv.tot {p : NR} {N : Nat} (h : Inv p N) : totN p ≤ p 50 ∧ p 50 ≤ 99990 ∧ totN p ≤ 99990 := ⟨h.2.2.2.2.2.2.2.2.2.2.2.2.2.2.1, h.2.2.2.2.2.2.2.2.2.2.2.1, Nat.le_trans h.2.2.2.2.2.2.2.2.2.2.2.2.2.2.1 h.2.2.2.2.2.2.2.2.2.2.2.1⟩
theorem Inv.ap9 {p : NR} {N : Nat} (h : Inv p N) : ∀ t, t < 6 → p (25 + t) ≤ 9 := h.2.2.2.2.2.2.2.2.1
theorem Inv.ap1 {p : NR} {N : Nat} (h : Inv p N) : ∀ t, t < p 24 → 1 ≤ p (25 + t) := h.2.2.2.2.2.2.2.1
theorem sum_smp {M : KMem} {p : NR} {o : Nat} (h : StR o M (nr p)) : ksum (M (o + 1)) 10 = nI (sumN p 0) := by
  rw [ksum_congr (g := fun k => nI (p (0 + k))) (fun k hk => by rw [h.smp hk, Nat.zero_add]; rfl), ksum_nI]
  rfl
theorem sum_res {M : KMem} {p : NR} {o : Nat} (h : StR o M (nr p)) : ksum (M (o + 2)) 10 = nI (sumN p 10) := by
  rw [ksum_congr (g := fun k => nI (p (10 + k))) (fun k hk => by rw [h.res hk]; rfl), ksum_nI]
  rfl
theorem sum_ly {M : KMem} {p : NR} {o t : Nat} (h : StR o M (nr p)) (ht : t < 7) : ksum (M (o + 7 + 2 * t)) 10 = nI (sumN p (53 + 12 * t)) := by
  rw [ksum_congr (g := fun k => nI (p (53 + 12 * t + k))) (fun k hk => by rw [h.ly ht hk]; rfl), ksum_nI]
  rfl
theorem x_sum2 {M : KMem} {p : NR} {Q : Option Value → KMem → Prop} (h : StR 1 M (nr p)) : kE 40 0 [.ref 2, .null, .null, .null, .null, .null] [] M Q = Q (some (.int (nI (sumN p 0)))) M := by
  rw [x_sumOf tp25 (by rw [tp30]; decide), tp30]
  have := sum_smp h
  rw [show 1 + 1 = 2 from rfl] at this
  rw [this]
theorem x_sum3 {M : KMem} {p : NR} {Q : Option Value → KMem → Prop} (h : StR 1 M (nr p)) : kE 40 0 [.ref 3, .null, .null, .null, .null, .null] [] M Q = Q (some (.int (nI (sumN p 10)))) M := by
  rw [x_sumOf tp26 (by rw [tp31]; decide), tp31]
  have := sum_res h
  rw [show 1 + 2 = 3 from rfl] at this
  rw [this]
theorem Inv.nu_smp {p : NR} {N k v : Nat} (h : Inv p N) (hk : k < 10) (hv : v ≤ 9999) : Inv (nu p k v) N := by
  obtain ⟨h1, h2, h3, h4, h5, h6, h7, h8, h9, h10, h11, h12, h13, h14, h15, h16⟩ := h
  refine ⟨fun j hj => ?_, fun j hj => by rw [nu_ne (by omega)]; exact h2 j hj, by rw [nu_ne (by omega)]; exact h3, by rw [nu_ne (by omega)]; exact h4, by rw [nu_ne (by omega)]; exact h5, by rw [nu_ne (by omega)]; exact h6, by rw [nu_ne (by omega)]; exact h7, fun t ht => ?_, fun t ht => by rw [nu_ne (by omega)]; exact h9 t ht, fun i hi hi2 => by rw [nu_ne (by omega)]; exact h10 i hi hi2, by rw [nu_ne (by omega)]; exact h11, by rw [nu_ne (by omega)]; exact h12, by rw [nu_ne (by omega)]; exact h13, by rw [nu_ne (by omega)]; exact h14, by rw [nu_ne (by omega), tot_nu_out (by omega)]; exact h15, fun t ht hs => ?_⟩
  · by_cases hjk : j = k
    · rw [hjk, nu_eq]; exact hv
    · rw [nu_ne hjk]; exact h1 j hj
  · rw [nu_ne (by omega)] at ht
    rw [nu_ne (by omega)]
    exact h8 t ht
  · rw [nu_ne (by omega)] at hs
    rw [nu_ne (by omega)]
    exact h16 t ht hs
def massV (p : NR) (f : Nat) (x : Int32) : Int32 := if x = -1 then nI (sumN p f) else if 0 ≤ x ∧ x ≤ 9 then nI (p (f + x.toNatClampNeg)) else -1
theorem x_mass {S : KS} {M : KMem} {x : Int32} (hX : XR S M) (Q : Option Value → KMem → Prop) : kE 19 0 [.ref 0, .int x] [] M Q = Q (some (.int (massV S.1 0 x))) M := by
  refine kE_det ?_ Q
  · have hR := hX.1
    unfold massV
    by_cases h1 : x = -1
    · subst h1
      simp only [e19_0, e19_1, e19_4, e19_7, e19_8, e19_11, e39_0, e39_1, e39_2, e39_5, e39_6, e39_9, e39_10, e39_11, e39_14, e39_17, e39_18, e39_19, e39_20, e39_23, e39_24, eq_self, kcat_nil, kcat_int, kcat_long, kcat_ref, kNL_int, kNL_ref, kNL_null, Option.toList_some, Option.toList_none, List.nil_append, List.cons_append, Nat.reduceAdd, Nat.reduceLeDiff, Nat.reduceEqDiff, true_and, and_true, true_or, or_true, false_or, or_false, ite_true, ite_false, tp1, tp5, tp18, tp20, not_true_eq_false, if_false, x_sum2 hR, if_true]
    · rcases rng x 0 9 (by decide) (by decide) with h | ⟨j, _, h9, rfl⟩
      · have h' : ¬ (0 ≤ x ∧ x ≤ 9) := h
        simp only [e19_0, e19_1, e19_4, e19_7, e19_8, e19_11, e39_0, e39_1, e39_2, e39_5, e39_6, e39_9, e39_10, e39_11, e39_14, e39_17, e39_18, e39_19, e39_20, e39_23, e39_24, eq_self, kcat_nil, kcat_int, kcat_long, kcat_ref, kNL_int, kNL_ref, kNL_null, Option.toList_some, Option.toList_none, List.nil_append, List.cons_append, Nat.reduceAdd, Nat.reduceLeDiff, Nat.reduceEqDiff, true_and, and_true, true_or, or_true, false_or, or_false, ite_true, ite_false, tp1, tp5, tp18, tp20, h1, not_false_eq_true, x_isClass, h', if_false]
      · have c : (0 : Int32) ≤ nI j ∧ nI j ≤ 9 := rng_in (by omega) h9 (by decide)
        have n10 : ¬ (1 : Int32) = 0 := by decide
        have e : M 2 j = nI (S.1 j) := hR.smp (by omega)
        simp only [e19_0, e19_1, e19_4, e19_7, e19_8, e19_11, e39_0, e39_1, e39_2, e39_5, e39_6, e39_9, e39_10, e39_11, e39_14, e39_17, e39_18, e39_19, e39_20, e39_23, e39_24, eq_self, kcat_nil, kcat_int, kcat_long, kcat_ref, kNL_int, kNL_ref, kNL_null, Option.toList_some, Option.toList_none, List.nil_append, List.cons_append, Nat.reduceAdd, Nat.reduceLeDiff, Nat.reduceEqDiff, true_and, and_true, true_or, or_true, false_or, or_false, ite_true, ite_false, tp1, tp5, tp18, tp20, tp25, tp30, h1, not_false_eq_true, x_isClass, c, and_self, n10, if_false, kin_nI (show j < 10 by omega) (by decide), clN (show j < 2 ^ 31 by omega), e]
        rw [Nat.zero_add]
theorem x_reserve {S : KS} {M : KMem} {x : Int32} (hX : XR S M) (Q : Option Value → KMem → Prop) : kE 20 0 [.ref 0, .int x] [] M Q = Q (some (.int (massV S.1 10 x))) M := by
  refine kE_det ?_ Q
  · have hR := hX.1
    unfold massV
    by_cases h1 : x = -1
    · subst h1
      simp only [e20_0, e20_1, e20_4, e20_7, e20_8, e20_11, e39_0, e39_1, e39_2, e39_5, e39_6, e39_9, e39_10, e39_11, e39_14, e39_17, e39_18, e39_19, e39_20, e39_23, e39_24, eq_self, kcat_nil, kcat_int, kcat_long, kcat_ref, kNL_int, kNL_ref, kNL_null, Option.toList_some, Option.toList_none, List.nil_append, List.cons_append, Nat.reduceAdd, Nat.reduceLeDiff, Nat.reduceEqDiff, true_and, and_true, true_or, or_true, false_or, or_false, ite_true, ite_false, tp1, tp5, tp18, tp21, not_true_eq_false, if_false, x_sum3 hR]
    · rcases rng x 0 9 (by decide) (by decide) with h | ⟨j, _, h9, rfl⟩
      · have h' : ¬ (0 ≤ x ∧ x ≤ 9) := h
        simp only [e20_0, e20_1, e20_4, e20_7, e20_8, e20_11, e39_0, e39_1, e39_2, e39_5, e39_6, e39_9, e39_10, e39_11, e39_14, e39_17, e39_18, e39_19, e39_20, e39_23, e39_24, eq_self, kcat_nil, kcat_int, kcat_long, kcat_ref, kNL_int, kNL_ref, kNL_null, Option.toList_some, Option.toList_none, List.nil_append, List.cons_append, Nat.reduceAdd, Nat.reduceLeDiff, Nat.reduceEqDiff, true_and, and_true, true_or, or_true, false_or, or_false, ite_true, ite_false, tp1, tp5, tp18, tp21, h1, not_false_eq_true, x_isClass, h', if_false]
      · have c : (0 : Int32) ≤ nI j ∧ nI j ≤ 9 := rng_in (by omega) h9 (by decide)
        have n10 : ¬ (1 : Int32) = 0 := by decide
        have e : M 3 j = nI (S.1 (10 + j)) := hR.res (by omega)
        simp only [e20_0, e20_1, e20_4, e20_7, e20_8, e20_11, e39_0, e39_1, e39_2, e39_5, e39_6, e39_9, e39_10, e39_11, e39_14, e39_17, e39_18, e39_19, e39_20, e39_23, e39_24, eq_self, kcat_nil, kcat_int, kcat_long, kcat_ref, kNL_int, kNL_ref, kNL_null, Option.toList_some, Option.toList_none, List.nil_append, List.cons_append, Nat.reduceAdd, Nat.reduceLeDiff, Nat.reduceEqDiff, true_and, and_true, true_or, or_true, false_or, or_false, ite_true, ite_false, tp1, tp5, tp18, tp21, tp26, tp31, h1, not_false_eq_true, x_isClass, c, and_self, n10, if_false, kin_nI (show j < 10 by omega) (by decide), clN (show j < 2 ^ 31 by omega), e]

theorem op_setMass (x y : Int32) : XOK KJ 18 [.int x, .int y] := by
  intro S N hN hI
  have n10 : ¬ (1 : Int32) = 0 := by decide
  rcases rng x 0 9 (by decide) (by decide) with h | ⟨k, _, hk, rfl⟩
  · have h' : ¬ (0 ≤ x ∧ x ≤ 9) := h
    refine ⟨-1, S, hI.mono, Or.inl ⟨by decide, rfl⟩, fun M Q hX hQ => ?_⟩
    · show kE 18 0 [.ref 0, .int x, .int y, .null] [] M Q
      simp only [e18_0, e18_1, e18_4, e18_7, e18_8, e18_9, e18_12, e18_15, e18_18, e18_19, e18_20, e18_21, e18_24, e18_25, e18_28, e18_31, e18_32, e18_33, e18_34, e18_35, e18_38, e18_41, e18_42, e18_43, e18_44, e18_45, eq_self, kcat_nil, kcat_int, kcat_long, kcat_ref, kNL_int, kNL_ref, kNL_null, Option.toList_some, Option.toList_none, List.nil_append, List.cons_append, Nat.reduceAdd, Nat.reduceLeDiff, Nat.reduceEqDiff, true_and, and_true, true_or, or_true, false_or, or_false, ite_true, ite_false, x_isClass, h', if_false, if_true]
      exact hQ M hX Fx.rfl'
  rcases rng y 0 9999 (by decide) (by decide) with h | ⟨v, _, hv, rfl⟩
  · have h' : ¬ (0 ≤ y ∧ y ≤ 9999) := h
    have c : (0 : Int32) ≤ nI k ∧ nI k ≤ 9 := rng_in (by omega) hk (by decide)
    refine ⟨-1, S, hI.mono, Or.inl ⟨by decide, rfl⟩, fun M Q hX hQ => ?_⟩
    · show kE 18 0 [.ref 0, .int (nI k), .int y, .null] [] M Q
      simp only [e18_0, e18_1, e18_4, e18_7, e18_8, e18_9, e18_12, e18_15, e18_18, e18_19, e18_20, e18_21, e18_24, e18_25, e18_28, e18_31, e18_32, e18_33, e18_34, e18_35, e18_38, e18_41, e18_42, e18_43, e18_44, e18_45, eq_self, kcat_nil, kcat_int, kcat_long, kcat_ref, kNL_int, kNL_ref, kNL_null, Option.toList_some, Option.toList_none, List.nil_append, List.cons_append, Nat.reduceAdd, Nat.reduceLeDiff, Nat.reduceEqDiff, true_and, and_true, true_or, or_true, false_or, or_false, ite_true, ite_false, x_isClass, x_isIn, h', c, and_self, n10, if_false, if_true, not_true_eq_false]
      exact hQ M hX Fx.rfl'
  have c : (0 : Int32) ≤ nI k ∧ nI k ≤ 9 := rng_in (by omega) hk (by decide)
  have c2 : (0 : Int32) ≤ nI v ∧ nI v ≤ 9999 := rng_in (by omega) hv (by decide)
  refine ⟨nI (S.1 k), (nu S.1 k v, (sav S).2), hI.sav.cur (hI.1.mono.nu_smp (by omega) hv), Or.inr ⟨nI_pos' (by have := hI.1.1 k (by omega); omega), rfl, fun hJ => hJ.same (fun i h1 h2 => nu_ne (by omega)) hI.1.f24⟩, fun M Q hX hQ => ?_⟩
  · show kE 18 0 [.ref 0, .int (nI k), .int (nI v), .null] [] M Q
    simp only [e18_0, e18_1, e18_4, e18_7, e18_8, e18_9, e18_12, e18_15, e18_18, e18_19, e18_20, e18_21, e18_24, e18_25, e18_28, e18_31, e18_32, e18_33, e18_34, e18_35, e18_38, e18_41, e18_42, e18_43, e18_44, e18_45, eq_self, kcat_nil, kcat_int, kcat_long, kcat_ref, kNL_int, kNL_ref, kNL_null, Option.toList_some, Option.toList_none, List.nil_append, List.cons_append, Nat.reduceAdd, Nat.reduceLeDiff, Nat.reduceEqDiff, true_and, and_true, true_or, or_true, false_or, or_false, ite_true, ite_false, x_isClass, x_isIn, c, c2, and_self, n10, if_false, if_true, not_false_eq_true, tp5]
    refine x_saveState hX hI.1.f49 (fun M1 hX1 hF _ _ _ => ?_)
    have hR := hX1.1
    have e : M1 2 k = nI (S.1 k) := hR.smp (by omega)
    simp only [e18_0, e18_1, e18_4, e18_7, e18_8, e18_9, e18_12, e18_15, e18_18, e18_19, e18_20, e18_21, e18_24, e18_25, e18_28, e18_31, e18_32, e18_33, e18_34, e18_35, e18_38, e18_41, e18_42, e18_43, e18_44, e18_45, eq_self, kcat_nil, kcat_int, kcat_long, kcat_ref, kNL_int, kNL_ref, kNL_null, Option.toList_some, Option.toList_none, List.nil_append, List.cons_append, Nat.reduceAdd, Nat.reduceLeDiff, Nat.reduceEqDiff, true_and, and_true, true_or, or_true, false_or, or_false, ite_true, ite_false, tp1, tp5, tp18, tp20, tp25, tp30, kin_nI (show k < 10 by omega) (by decide), clN (show k < 2 ^ 31 by omega), e]
    have s := hR.setSmp (show k < 10 by omega) (nI v)
    rw [nr_upd] at s
    exact hQ _ (hX1.cur (Off.rfl'.mset (by decide) (by decide)) s) (hF.mset (by decide) _)
