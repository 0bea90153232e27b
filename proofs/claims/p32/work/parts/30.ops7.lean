/-! the stack of sieves -/
theorem find_or (p : NR) (a : Nat) : ∀ d t, findN p a d t = 99 ∨ (t ≤ findN p a d t ∧ findN p a d t < t + d) := by
  intro d
  induction d with
  | zero => intro t; exact Or.inl rfl
  | succ d ih =>
    intro t
    rw [findN]
    by_cases h : p (25 + t) = a
    · rw [if_pos h]; exact Or.inr ⟨by omega, by omega⟩
    · rw [if_neg h]
      rcases ih (t + 1) with q | q
      · exact Or.inl q
      · exact Or.inr ⟨by omega, by omega⟩
theorem find_m9 {p : NR} {a : Nat} (hn : p 24 ≤ 6) : ((if findN p a (p 24) 0 = 99 then (-9 : Int32) else nI (findN p a (p 24) 0)) = -9) ↔ findN p a (p 24) 0 = 99 := by
  by_cases h : findN p a (p 24) 0 = 99
  · rw [if_pos h]; exact ⟨fun _ => h, fun _ => rfl⟩
  · rw [if_neg h]
    refine ⟨fun q => ?_, fun q => absurd q h⟩
    have := (find_or p a (p 24) 0).resolve_left h
    have e := congrArg Int32.toInt q
    rw [nI_toInt (by omega)] at e
    have e2 : (-9 : Int32).toInt = -9 := rfl
    omega
theorem ends_lo {p : NR} {i : Nat} (h : i < 49) : endsN p i = p i := if_neg (by omega)
theorem ends_hi {p : NR} {i : Nat} (h : 49 ≤ i) (h2 : i < 137) : endsN p i = 0 := if_pos ⟨h, h2⟩
theorem Inv.stk {p q : NR} {N : Nat} (h : Inv p N) (ho : ∀ i, i < 137 → ¬ (24 ≤ i ∧ i < 31) → q i = endsN p i) (h24 : q 24 ≤ 6) (h1 : ∀ t, t < q 24 → 1 ≤ q (25 + t)) (h9 : ∀ t, t < 6 → q (25 + t) ≤ 9) : Inv q N := by
  obtain ⟨g1, g2, g3, g4, g5, g6, g7, g8, g9, g10, g11, g12, g13, g14, g15, g16⟩ := h
  have lo : ∀ i, i < 49 → ¬ (24 ≤ i ∧ i < 31) → q i = p i := fun i hi hk => by rw [ho i (by omega) hk, ends_lo hi]
  have hi0 : ∀ i, 49 ≤ i → i < 137 → q i = 0 := fun i h1 h2 => by rw [ho i h2 (by omega), ends_hi h1 h2]
  refine ⟨fun k hk => by rw [lo k (by omega) (by omega)]; exact g1 k hk, fun k hk => by rw [lo _ (by omega) (by omega)]; exact g2 k hk, by rw [lo 20 (by omega) (by omega)]; exact g3, by rw [lo 21 (by omega) (by omega)]; exact g4, by rw [lo 22 (by omega) (by omega)]; exact g5, by rw [lo 23 (by omega) (by omega)]; exact g6, h24, h1, h9, fun i h1 h2 => by rw [lo i (by omega) (by omega)]; exact g10 i h1 h2, by rw [hi0 49 (by omega) (by omega)]; omega, by rw [hi0 50 (by omega) (by omega)]; omega, by rw [hi0 51 (by omega) (by omega)]; omega, by rw [hi0 52 (by omega) (by omega)]; omega, ?_, fun t ht _ => hi0 _ (by omega) (by omega)⟩
  have : totN q = 0 := nsum_zero (fun k hk => hi0 _ (by omega) (by omega))
  rw [this]; exact Nat.zero_le _
theorem ins_Inv {p : NR} {a N : Nat} (h : Inv p N) (ha1 : 1 ≤ a) (ha : a ≤ 9) (hn : p 24 < 6) : Inv (insN (endsN p) a) N := by
  have e24 : endsN p 24 = p 24 := ends_lo (by decide)
  have ag : ∀ t, t < p 24 → (if t < 6 then p (25 + t) else 0) = endsN p (25 + t) := fun t ht => by rw [if_pos (by omega), ends_lo (by omega)]
  have i24 : insN (endsN p) a 24 = p 24 + 1 := by unfold insN; rw [if_pos rfl, e24]
  have iat : ∀ t, t < 6 → insN (endsN p) a (25 + t) = insG a (p 24) (fun t => endsN p (25 + t)) t := fun t ht => by
    unfold insN
    rw [if_neg (by omega), if_pos (by omega), e24, show 25 + t - 25 = t from by omega]
  refine h.stk (fun i hi hk => ?_) (by rw [i24]; omega) (fun t ht => ?_) (fun t ht => ?_)
  · unfold insN
    rw [if_neg (by omega), if_neg (by omega)]
  · rw [i24] at ht
    rw [iat t (by omega)]
    exact insG_ge ha1 (p 24) _ (fun s hs => by rw [ends_lo (by omega)]; exact h.ap1 s hs) t (by omega)
  · rw [iat t ht]
    by_cases hle : t ≤ p 24
    · rw [← insG_agree (p 24) _ _ ag t hle]
      exact insG_le ha (p 24) _ (fun s => by split; exact h.ap9 s (by omega); omega) t
    · rw [insG_above _ _ _ (by omega), ends_lo (by omega)]
      exact h.ap9 t ht
theorem find_none {p : NR} {a : Nat} : ∀ d t, t + d ≤ 99 → findN p a d t = 99 → ∀ s, t ≤ s → s < t + d → p (25 + s) ≠ a := by
  intro d
  induction d with
  | zero => intro t _ _ s h1 h2; omega
  | succ d ih =>
    intro t ht h s h1 h2
    rw [findN] at h
    by_cases hp : p (25 + t) = a
    · rw [if_pos hp] at h; omega
    · rw [if_neg hp] at h
      by_cases hs : s = t
      · rw [hs]; exact hp
      · exact ih (t + 1) (by omega) h s (by omega) (by omega)
theorem insG_top {a : Nat} : ∀ (n : Nat) (g : Nat → Nat), insG a n g n = if 0 < n ∧ g (n - 1) < a then g (n - 1) else a := by
  intro n
  cases n with
  | zero => intro g; rw [insG, nu_eq, if_neg (by omega)]
  | succ n =>
    intro g
    rw [insG, show n + 1 - 1 = n from rfl]
    by_cases h : g n < a
    · rw [if_pos h, if_pos ⟨by omega, h⟩, insG_above n _ _ (by omega), nu_eq]
    · rw [if_neg h, if_neg (fun q => h q.2), nu_eq]
theorem insG_dec {a : Nat} : ∀ (n : Nat) (g : Nat → Nat), (∀ t, t + 1 < n → g (t + 1) < g t) → (∀ t, t < n → g t ≠ a) → ∀ t, t < n → insG a n g (t + 1) < insG a n g t := by
  intro n
  induction n with
  | zero => intro g _ _ t ht; omega
  | succ n ih =>
    intro g h1 h2 t ht
    rw [insG]
    by_cases h : g n < a
    · rw [if_pos h]
      have e : ∀ s, s < n + 1 → nu g (n + 1) (g n) s = g s := fun s hs => nu_ne (by omega)
      by_cases htn : t < n
      · exact ih _ (fun s hs => by rw [e _ (by omega), e _ (by omega)]; exact h1 s (by omega)) (fun s hs => by rw [e _ (by omega)]; exact h2 s (by omega)) t htn
      · have : t = n := by omega
        subst this
        rw [insG_above t _ _ (by omega), nu_eq, insG_top]
        by_cases h3 : 0 < t ∧ nu g (t + 1) (g t) (t - 1) < a
        · rw [if_pos h3, e _ (by omega)]
          have := h1 (t - 1) (by omega)
          rw [show t - 1 + 1 = t from by omega] at this
          exact this
        · rw [if_neg h3]; exact h
    · rw [if_neg h]
      have hne := h2 n (by omega)
      by_cases htn : t = n
      · subst htn
        rw [nu_eq, nu_ne (by omega)]
        omega
      · rw [nu_ne (by omega), nu_ne (by omega)]
        exact h1 t (by omega)
theorem ins_J {p : NR} {a : Nat} (hn : p 24 < 6) (hf : findN p a (p 24) 0 = 99) : KJ p (insN (endsN p) a) := fun hJ => by
  have e24 : endsN p 24 = p 24 := ends_lo (by decide)
  have i24 : insN (endsN p) a 24 = p 24 + 1 := by unfold insN; rw [if_pos rfl, e24]
  have iat : ∀ t, t < 6 → insN (endsN p) a (25 + t) = insG a (p 24) (fun t => endsN p (25 + t)) t := fun t ht => by
    unfold insN
    rw [if_neg (by omega), if_pos (by omega), e24, show 25 + t - 25 = t from by omega]
  have ihi : ∀ i, 53 ≤ i → i < 137 → insN (endsN p) a i = 0 := fun i h1 h2 => by
    unfold insN
    rw [if_neg (by omega), if_neg (by omega), ends_hi (by omega) h2]
  refine ⟨fun t ht => ?_, fun t k ht hk _ => ?_⟩
  · rw [i24] at ht
    rw [iat _ (by omega), iat _ (by omega)]
    refine insG_dec (p 24) _ (fun s hs => ?_) (fun s hs => ?_) t (by omega)
    · show endsN p (25 + (s + 1)) < endsN p (25 + s)
      rw [ends_lo (by omega), ends_lo (by omega)]
      exact hJ.1 s hs
    · show endsN p (25 + s) ≠ a
      rw [ends_lo (by omega)]
      exact find_none (p 24) 0 (by omega) hf s (Nat.zero_le _) (by omega)
  · rw [i24] at ht
    exact ihi _ (by omega) (by omega)
theorem op_addSieve (x : Int32) : XOK KJ 23 [.int x] := by
  intro S N hN hI
  have n10 : ¬ (1 : Int32) = 0 := by decide
  have hn := hI.1.f24
  rcases rng x 1 9 (by decide) (by decide) with h | ⟨a, a1, a9, rfl⟩
  · have h' : ¬ (1 ≤ x ∧ x ≤ 9) := h
    refine ⟨-1, S, hI.mono, Or.inl ⟨by decide, rfl⟩, fun M Q hX hQ => ?_⟩
    · show kE 23 0 [.ref 0, .int x] [] M Q
      simp only [e23_0, e23_1, e23_2, e23_4, e23_7, e23_10, e23_11, e23_12, e23_13, e23_16, e23_17, e23_20, e23_22, e23_25, e23_27, e23_28, e23_29, e23_32, e23_35, e23_37, e23_40, e23_42, e23_43, e23_44, e23_47, e23_48, e23_51, e23_54, e23_55, e23_58, e23_59, e23_62, eq_self, kcat_nil, kcat_int, kcat_long, kcat_ref, kNL_int, kNL_ref, kNL_null, Option.toList_some, Option.toList_none, List.nil_append, List.cons_append, Nat.reduceAdd, Nat.reduceLeDiff, Nat.reduceEqDiff, true_and, and_true, true_or, or_true, false_or, or_false, ite_true, ite_false, x_isIn, h', if_false, not_true_eq_false]
      exact hQ M hX Fx.rfl'
  have c : (1 : Int32) ≤ nI a ∧ nI a ≤ 9 := rng_in (lo := 1) (hi := 9) a1 a9 (by decide)
  have zf := find_m9 (p := S.1) (a := a) hn
  by_cases hf : findN S.1 a (S.1 24) 0 = 99
  · have z6 : (nI (S.1 24) < 6) ↔ S.1 24 < 6 := nI_lt_iff (b := 6) (by omega) (by decide)
    have z6' : (nI (S.1 24) = 6) ↔ S.1 24 = 6 := nI_eq_iff (b := 6) (by omega) (by decide)
    by_cases h6 : S.1 24 < 6
    · have h6' : ¬ S.1 24 = 6 := by omega
      obtain ⟨q, hq⟩ : ∃ q, q = endsN S.1 := ⟨_, rfl⟩
      have q24 : q 24 = S.1 24 := by rw [hq]; exact ends_lo (by decide)
      have qap : ∀ t, t < 6 → q (25 + t) ≤ 9 := fun t ht => by rw [hq, ends_lo (by omega)]; exact hI.1.ap9 t ht
      refine ⟨nI (posG a (q 24) (fun t => q (25 + t))), (insN q a, (sav S).2), hI.sav.cur (by rw [hq]; exact (ins_Inv hI.1 a1 a9 h6).mono), Or.inr ⟨nI_pos' (by have := posG_le (a := a) (q 24) (fun t => q (25 + t)); omega), rfl, by rw [hq]; exact ins_J h6 hf⟩, fun M Q hX hQ => ?_⟩
      · show kE 23 0 [.ref 0, .int (nI a)] [] M Q
        have e1 : M 1 5 = nI (S.1 24) := hX.1.f24
        simp only [e23_0, e23_1, e23_2, e23_4, e23_7, e23_10, e23_11, e23_12, e23_13, e23_16, e23_17, e23_20, e23_22, e23_25, e23_27, e23_28, e23_29, e23_32, e23_35, e23_37, e23_40, e23_42, e23_43, e23_44, e23_48, e23_51, e23_54, e23_55, e23_58, e23_59, e23_62, eq_self, kcat_nil, kcat_int, kcat_long, kcat_ref, kNL_int, kNL_ref, kNL_null, Option.toList_some, Option.toList_none, List.nil_append, List.cons_append, Nat.reduceAdd, Nat.reduceLeDiff, Nat.reduceEqDiff, true_and, and_true, true_or, or_true, false_or, or_false, ite_true, ite_false, x_isIn, c, and_self, n10, not_false_eq_true, tp1, tp5, tp18, x_findSieve st1 hX.1 hn a9 hI.1.ap9, zf, hf, e1, z6, h6]
        refine x_saveState hX hI.1.f49 (fun M1 hX1 hF _ _ _ => ?_)
        simp only [e23_0, e23_1, e23_2, e23_4, e23_7, e23_10, e23_11, e23_12, e23_13, e23_16, e23_17, e23_20, e23_22, e23_25, e23_27, e23_28, e23_29, e23_32, e23_35, e23_37, e23_40, e23_42, e23_43, e23_44, e23_47, e23_48, e23_51, e23_55, e23_58, e23_59, e23_62, eq_self, kcat_nil, kcat_int, kcat_long, kcat_ref, kNL_int, kNL_ref, kNL_null, Option.toList_some, Option.toList_none, List.nil_append, List.cons_append, Nat.reduceAdd, Nat.reduceLeDiff, Nat.reduceEqDiff, true_and, and_true, true_or, or_true, false_or, or_false, ite_true, ite_false, tp1, tp5, tp18]
        refine x_endAnalysis st1 hX1.1 (fun M2 hR2 hO2 => ?_)
        have hR2' : StR 1 M2 (nr q) := by rw [hq]; exact hR2
        simp only [e23_0, e23_1, e23_2, e23_4, e23_7, e23_10, e23_11, e23_12, e23_13, e23_16, e23_17, e23_20, e23_22, e23_25, e23_27, e23_28, e23_29, e23_32, e23_35, e23_37, e23_40, e23_42, e23_43, e23_44, e23_47, e23_48, e23_51, e23_54, e23_55, e23_58, e23_59, eq_self, kcat_nil, kcat_int, kcat_long, kcat_ref, kNL_int, kNL_ref, kNL_null, Option.toList_some, Option.toList_none, List.nil_append, List.cons_append, Nat.reduceAdd, Nat.reduceLeDiff, Nat.reduceEqDiff, true_and, and_true, true_or, or_true, false_or, or_false, ite_true, ite_false, tp1, tp5, tp18]
        refine x_insertSieve st1 hR2' (by omega) a9 qap (fun M3 hR3 hO3 => ?_)
        simp only [e23_0, e23_1, e23_2, e23_4, e23_7, e23_10, e23_11, e23_12, e23_13, e23_16, e23_17, e23_20, e23_22, e23_25, e23_27, e23_28, e23_29, e23_32, e23_35, e23_37, e23_40, e23_42, e23_43, e23_44, e23_47, e23_48, e23_51, e23_54, e23_55, e23_58, e23_59, e23_62, eq_self, kcat_nil, kcat_int, kcat_long, kcat_ref, kNL_int, kNL_ref, kNL_null, Option.toList_some, Option.toList_none, List.nil_append, List.cons_append, Nat.reduceAdd, Nat.reduceLeDiff, Nat.reduceEqDiff, true_and, and_true, true_or, or_true, false_or, or_false, ite_true, ite_false]
        exact hQ _ (hX1.cur (hO2.trans hO3) hR3) (fx1 hF (hO2.trans hO3))
    · have h6' : S.1 24 = 6 := by omega
      refine ⟨-3, S, hI.mono, Or.inl ⟨by decide, rfl⟩, fun M Q hX hQ => ?_⟩
      · show kE 23 0 [.ref 0, .int (nI a)] [] M Q
        have e1 : M 1 5 = nI (S.1 24) := hX.1.f24
        simp only [e23_0, e23_1, e23_2, e23_4, e23_7, e23_10, e23_11, e23_12, e23_13, e23_16, e23_17, e23_20, e23_22, e23_25, e23_27, e23_28, e23_29, e23_32, e23_35, e23_37, e23_40, e23_42, e23_43, e23_44, e23_48, e23_51, e23_54, e23_55, e23_58, e23_59, e23_62, eq_self, kcat_nil, kcat_int, kcat_long, kcat_ref, kNL_int, kNL_ref, kNL_null, Option.toList_some, Option.toList_none, List.nil_append, List.cons_append, Nat.reduceAdd, Nat.reduceLeDiff, Nat.reduceEqDiff, true_and, and_true, true_or, or_true, false_or, or_false, ite_true, ite_false, x_isIn, c, and_self, n10, not_false_eq_true, tp1, tp5, tp18, x_findSieve st1 hX.1 hn a9 hI.1.ap9, zf, hf, e1, z6, h6]
        exact hQ M hX Fx.rfl'
  · have zn : ¬ nI (findN S.1 a (S.1 24) 0) = -9 := fun z => hf (zf.mp (by rw [if_neg hf]; exact z))
    refine ⟨-2, S, hI.mono, Or.inl ⟨by decide, rfl⟩, fun M Q hX hQ => ?_⟩
    · show kE 23 0 [.ref 0, .int (nI a)] [] M Q
      simp only [e23_0, e23_1, e23_2, e23_4, e23_7, e23_10, e23_11, e23_12, e23_13, e23_16, e23_17, e23_20, e23_22, e23_25, e23_27, e23_28, e23_29, e23_32, e23_35, e23_37, e23_40, e23_42, e23_43, e23_44, e23_47, e23_48, e23_51, e23_54, e23_55, e23_58, e23_59, e23_62, eq_self, kcat_nil, kcat_int, kcat_long, kcat_ref, kNL_int, kNL_ref, kNL_null, Option.toList_some, Option.toList_none, List.nil_append, List.cons_append, Nat.reduceAdd, Nat.reduceLeDiff, Nat.reduceEqDiff, true_and, and_true, true_or, or_true, false_or, or_false, ite_true, ite_false, x_isIn, c, and_self, n10, not_false_eq_true, tp1, tp5, tp18, x_findSieve st1 hX.1 hn a9 hI.1.ap9, zn, hf, if_false]
      exact hQ M hX Fx.rfl'
