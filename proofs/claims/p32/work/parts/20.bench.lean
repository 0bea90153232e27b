/-! the bench: state, saved states, text -/
theorem tp1 : rf 0 0 = 1 := by decide
theorem tp2 : rf 0 1 = 21 := by decide
theorem tp3 : rf 0 2 = 161 := by decide
theorem tp4 : rf 0 3 = 162 := by decide
theorem tp5 : kd 0 = 3 := by decide
theorem tp6 : kd 161 = 10 := by decide
theorem tp7 : kd 162 = 0 := by decide
theorem tp8 : ln 161 = 6 := by decide
theorem tp9 : rf 162 0 = 163 := by decide
theorem tp10 : rf 162 1 = 164 := by decide
theorem tp11 : rf 162 2 = 165 := by decide
theorem tp12 : kd 163 = 6 := by decide
theorem tp13 : kd 164 = 5 := by decide
theorem tp14 : kd 165 = 7 := by decide
theorem tp15 : ln 163 = 80 := by decide
theorem tp16 : ln 164 = 10 := by decide
theorem tp17 : ln 165 = 10 := by decide
theorem tp18 : kd 1 = 1 := by decide
theorem tp19 : kd 21 = 1 := by decide
theorem tp20 : rf 1 0 = 2 := by decide
theorem tp21 : rf 1 1 = 3 := by decide
theorem tp22 : rf 1 2 = 4 := by decide
theorem tp23 : rf 1 3 = 5 := by decide
theorem tp24 : rf 1 4 = 6 := by decide
theorem tp25 : kd 2 = 5 := by decide
theorem tp26 : kd 3 = 5 := by decide
theorem tp27 : kd 4 = 9 := by decide
theorem tp28 : kd 5 = 5 := by decide
theorem tp29 : kd 6 = 5 := by decide
theorem tp30 : ln 2 = 10 := by decide
theorem tp31 : ln 3 = 10 := by decide
theorem tp32 : ln 4 = 7 := by decide
theorem tp33 : ln 5 = 10 := by decide
theorem tp34 : ln 6 = 10 := by decide
theorem tp35 (t : Nat) : rf 4 t = 7 + 2 * t := rf_tr (o := 1) st1
theorem tp36 (j : Nat) : rf 161 j = 41 + 20 * j := by unfold rf; simp
theorem kd_t1 {t : Nat} (h : t < 7) : kd (7 + 2 * t) = 2 := kd_tr (o := 1) st1 h
theorem rf_t1 {t : Nat} (h : t < 7) : rf (7 + 2 * t) 0 = 8 + 2 * t := rf_ly (o := 1) st1 h
theorem kd_l1 {t : Nat} (h : t < 7) : kd (8 + 2 * t) = 5 := kd_ly (o := 1) st1 h
theorem ln_l1 {t : Nat} (h : t < 7) : ln (8 + 2 * t) = 10 := ln_ly (o := 1) st1 h
abbrev KS : Type := NR × Nat × (Nat → NR) × Nat × (Nat → Nat)
def XR (S : KS) (M : KMem) : Prop :=
  StR 1 M (nr S.1) ∧ (∃ q, q < 6 ∧ M 0 4 = nI q ∧ ∀ j, j < S.2.1 → StR (41 + 20 * ((q + 5 - j) % 6)) M (nr (S.2.2.1 j))) ∧ M 0 5 = nI S.2.1 ∧ S.2.1 ≤ 6 ∧ M 162 3 = nI S.2.2.2.1 ∧ S.2.2.2.1 ≤ 80 ∧ (∀ i, i < S.2.2.2.1 → M 163 i = nI (S.2.2.2.2 i))
def Fx (M M' : KMem) : Prop := ∀ c, 166 ≤ c → M' c = M c
theorem Fx.rfl' {M : KMem} : Fx M M := fun _ _ => rfl
theorem Fx.trans {M M' M'' : KMem} (h1 : Fx M M') (h2 : Fx M' M'') : Fx M M'' := fun c hc => (h2 c hc).trans (h1 c hc)
theorem Off.fx {o : Nat} {M M' : KMem} (ho : o + 20 ≤ 166) (h : Off o M M') : Fx M M' := fun c hc => h c (by omega)
theorem Fx.mset {M M' : KMem} (h : Fx M M') {c j : Nat} (hc : c < 166) (v : Int32) : Fx M (mset M' c j v) := fun d hd => by rw [mset_off (by omega)]; exact h d hd
/-- a change of the present state alone -/
theorem XR.cur {S : KS} {M M' : KMem} {p : NR} (h : XR S M) (h' : Off 1 M M') (hp : StR 1 M' (nr p)) : XR (p, S.2) M' := by
  obtain ⟨h1, ⟨q, h2, h3, h4⟩, h5, h6, h7, h8, h9⟩ := h
  refine ⟨hp, ⟨q, h2, by rw [h' 0 (by omega)]; exact h3, fun j hj => (h4 j hj).off (fun c hc hc2 => h' c (by omega))⟩, by rw [h' 0 (by omega)]; exact h5, h6, by rw [h' 162 (by omega)]; exact h7, h8, fun i hi => by rw [h' 163 (by omega)]; exact h9 i hi⟩
/-- a change of the text, or of what the reader leaves behind -/
theorem XR.text {S : KS} {M M' : KMem} {len : Nat} {tx : Nat → Nat} (h : XR S M) (h' : ∀ c, (c < 162 ∨ 166 ≤ c) → M' c = M c) (h1 : M' 162 3 = nI len) (h2 : len ≤ 80) (h3 : ∀ i, i < len → M' 163 i = nI (tx i)) : XR (S.1, S.2.1, S.2.2.1, len, tx) M' := by
  obtain ⟨g1, ⟨q, g2, g3, g4⟩, g5, g6, g7, g8, g9⟩ := h
  exact ⟨g1.off (fun c hc hc2 => h' c (by omega)), ⟨q, g2, by rw [h' 0 (by omega)]; exact g3, fun j hj => (g4 j hj).off (fun c hc hc2 => h' c (by omega))⟩, by rw [h' 0 (by omega)]; exact g5, g6, h1, h2, h3⟩
def psS (p : NR) (ps : Nat → NR) : Nat → NR := fun j => if j = 0 then p else ps (j - 1)
def sav (S : KS) : KS := (S.1, min (S.2.1 + 1) 6, psS S.1 S.2.2.1, S.2.2.2)
def IS (S : KS) (N : Nat) : Prop := Inv S.1 N ∧ (∀ j, j < S.2.1 → Inv (S.2.2.1 j) N) ∧ S.2.1 ≤ 6 ∧ S.2.2.2.1 ≤ 80 ∧ (∀ i, i < S.2.2.2.1 → S.2.2.2.2 i ≤ 255)
theorem Inv.f49 {p : NR} {N : Nat} (h : Inv p N) : p 49 ≤ 1 := h.2.2.2.2.2.2.2.2.2.2.1
theorem Inv.f24 {p : NR} {N : Nat} (h : Inv p N) : p 24 ≤ 6 := h.2.2.2.2.2.2.1
theorem nI_01 {x : Nat} (h : x ≤ 1) : nI x = 0 ∨ nI x = 1 := by
  rcases (show x = 0 ∨ x = 1 by omega) with h | h
  · left; rw [h]; rfl
  · right; rw [h]; rfl
theorem x_saveState {S : KS} {M : KMem} {Q : Option Value → KMem → Prop} (hX : XR S M) (h49 : S.1 49 ≤ 1) (hQ : ∀ M', XR (sav S) M' → Fx M M' → M' 1 = M 1 → (∀ c, 1 ≤ c → c < 21 → M' c = M c) → (∀ c, 162 ≤ c → M' c = M c) → Q none M') : kE 36 0 [.ref 0] [] M Q := by
  obtain ⟨h1, ⟨q, h2, h3, h4⟩, h5, h6, h7, h8, h9⟩ := hX
  simp only [e36_0, e36_1, e36_4, e36_5, e36_8, e36_9, e36_10, e36_13, e36_16, e36_17, e36_18, e36_21, e36_22, e36_25, e36_26, e36_29, e36_30, e36_33, e36_34, e36_35, e36_38, e36_39, e36_42, e36_44, e36_47, e36_48, e36_48r, e36_49, e36_52, e36_53, e36_54, e36_57, eq_self, kcat_nil, kcat_int, kcat_long, kcat_ref, kNL_int, kNL_ref, kNL_null, Option.toList_some, Option.toList_none, List.nil_append, List.cons_append, Nat.reduceAdd, Nat.reduceLeDiff, Nat.reduceEqDiff, true_and, and_true, true_or, or_true, false_or, or_false, ite_true, ite_false, tp1, tp3, tp5, tp6, tp8, h3, kin_nI h2 (by decide), nI_clamp (show q < 2 ^ 31 by omega), tp36, kd_o (stS h2)]
  refine x_copyFrom (stS h2) st1 (by omega) h1 (nI_01 h49) (fun M1 r1 o1 => ?_)
  have e4 : M1 0 4 = nI q := by rw [o1 0 (by omega)]; exact h3
  have e5 : M1 0 5 = nI S.2.1 := by rw [o1 0 (by omega)]; exact h5
  have z5 : (nI q = 5) ↔ q = 5 := nI_eq_iff (b := 5) (by omega) (by decide)
  simp only [e36_0, e36_1, e36_4, e36_5, e36_8, e36_9, e36_10, e36_13, e36_16, e36_17, e36_18, e36_21, e36_22, e36_25, e36_26, e36_29, e36_30, e36_33, e36_34, e36_35, e36_38, e36_39, e36_42, e36_44, e36_47, e36_48, e36_48r, e36_49, e36_52, e36_53, e36_54, e36_57, eq_self, kcat_nil, kcat_int, kcat_long, kcat_ref, kNL_int, kNL_ref, kNL_null, Option.toList_some, Option.toList_none, List.nil_append, List.cons_append, Nat.reduceAdd, Nat.reduceLeDiff, Nat.reduceEqDiff, true_and, and_true, true_or, or_true, false_or, or_false, ite_true, ite_false, tp5, e4, z5, nI_add1]
  obtain ⟨q', hq'⟩ : ∃ q', q' = if q = 5 then 0 else q + 1 := ⟨_, rfl⟩
  have hq6 : q' < 6 := by rw [hq']; split <;> omega
  have ring : ∀ j, j < min (S.2.1 + 1) 6 → StR (41 + 20 * ((q' + 5 - j) % 6)) M1 (nr (psS S.1 S.2.2.1 j)) := by
    intro j hj
    unfold psS
    by_cases hj0 : j = 0
    · subst hj0
      rw [if_pos rfl, show (q' + 5 - 0) % 6 = q from by rw [hq']; split <;> omega]
      exact r1
    · rw [if_neg hj0]
      have e : (q' + 5 - j) % 6 = (q + 5 - (j - 1)) % 6 := by rw [hq']; split <;> omega
      rw [e]
      refine (h4 (j - 1) (by omega)).off (fun c hc hc2 => o1 c ?_)
      have : (q + 5 - (j - 1)) % 6 ≠ q := by omega
      omega
  have fin : ∀ v4 v5 M2, v4 = nI q' → v5 = nI (min (S.2.1 + 1) 6) → M2 0 4 = v4 → M2 0 5 = v5 → (∀ c, c ≠ 0 → M2 c = M1 c) → Q none M2 := by
    intro v4 v5 M2 e1 e2 e3 e4 e5
    subst e1 e2
    have om : ∀ c, c ≠ 0 → (c < 41 ∨ 161 ≤ c) → M2 c = M c := fun c hc hc2 => by rw [e5 c hc]; exact o1 c (by omega)
    refine hQ M2 ⟨h1.off (fun c hc hc2 => om c (by omega) (by omega)), ⟨q', hq6, e3, fun j hj => (ring j hj).off (fun c hc hc2 => e5 c (by omega))⟩, e4, ?_, by rw [om 162 (by decide) (by decide)]; exact h7, h8, fun i hi => by rw [om 163 (by decide) (by decide)]; exact h9 i hi⟩ (fun c hc => om c (by omega) (by omega)) (om 1 (by decide) (by decide)) (fun c hc hc2 => om c (by omega) (by omega)) (fun c hc => om c (by omega) (by omega))
    show min (S.2.1 + 1) 6 ≤ 6
    omega
  have e5' : ∀ v, mset M1 0 4 v 0 5 = nI S.2.1 := fun v => by rw [mset_ne (by omega)]; exact e5
  have z6 : ((6 : Int32) ≤ nI S.2.1) ↔ 6 ≤ S.2.1 := nI_le_iff (a := 6) (by decide) (by omega)
  by_cases hq : q = 5
  · simp only [hq, not_true_eq_false, if_false, e5', z6, nI_add1]
    have hq0 : q' = 0 := by rw [hq', if_pos hq]
    by_cases hL : 6 ≤ S.2.1
    · rw [if_pos hL]
      exact fin 0 (nI S.2.1) _ (by rw [hq0]; rfl) (by rw [show min (S.2.1 + 1) 6 = S.2.1 from by omega]) (mset_eq _ _ _ _) (e5' _) (fun c hc => mset_off hc)
    · rw [if_neg hL]
      exact fin 0 (nI (S.2.1 + 1)) _ (by rw [hq0]; rfl) (by rw [show min (S.2.1 + 1) 6 = S.2.1 + 1 from by omega]) (by rw [mset_ne (by omega), mset_eq]) (mset_eq _ _ _ _) (fun c hc => by rw [mset_off hc, mset_off hc])
  · simp only [hq, not_false_eq_true, if_true, e5', z6, nI_add1]
    have hq0 : q' = q + 1 := by rw [hq', if_neg hq]
    by_cases hL : 6 ≤ S.2.1
    · rw [if_pos hL]
      exact fin (nI (q + 1)) (nI S.2.1) _ (by rw [hq0]) (by rw [show min (S.2.1 + 1) 6 = S.2.1 from by omega]) (mset_eq _ _ _ _) (e5' _) (fun c hc => mset_off hc)
    · rw [if_neg hL]
      exact fin (nI (q + 1)) (nI (S.2.1 + 1)) _ (by rw [hq0]) (by rw [show min (S.2.1 + 1) 6 = S.2.1 + 1 from by omega]) (by rw [mset_ne (by omega), mset_eq]) (mset_eq _ _ _ _) (fun c hc => by rw [mset_off hc, mset_off hc])
def und (S : KS) : KS := (S.2.2.1 0, S.2.1 - 1, fun j => S.2.2.1 (j + 1), S.2.2.2)
theorem x_undo {S : KS} {M : KMem} {Q : Option Value → KMem → Prop} (hX : XR S M) (h49 : 0 < S.2.1 → S.2.2.1 0 49 ≤ 1) (hQ1 : S.2.1 = 0 → Q (some (.int (-2))) M) (hQ : ∀ M', 0 < S.2.1 → XR (und S) M' → Fx M M' → Q (some (.int (nI (S.2.1 - 1)))) M') : kE 35 0 [.ref 0] [] M Q := by
  obtain ⟨h1, ⟨q, h2, h3, h4⟩, h5, h6, h7, h8, h9⟩ := hX
  have z0 : (nI S.2.1 = 0) ↔ S.2.1 = 0 := nI_eq_iff (b := 0) (by omega) (by decide)
  have zq : (nI q = 0) ↔ q = 0 := nI_eq_iff (b := 0) (by omega) (by decide)
  simp only [e35_0, e35_1, e35_4, e35_7, e35_9, e35_10, e35_11, e35_12, e35_15, e35_18, e35_19, e35_22, e35_23, e35_26, e35_27, e35_28, e35_32, e35_35, e35_36, e35_39, e35_40, e35_43, e35_44, e35_47, e35_48, e35_48r, e35_49, e35_52, e35_53, e35_54, e35_57, e35_58, e35_61, eq_self, kcat_nil, kcat_int, kcat_long, kcat_ref, kNL_int, kNL_ref, kNL_null, Option.toList_some, Option.toList_none, List.nil_append, List.cons_append, Nat.reduceAdd, Nat.reduceLeDiff, Nat.reduceEqDiff, true_and, and_true, true_or, or_true, false_or, or_false, ite_true, ite_false, tp5, h5, z0, h3, zq]
  by_cases hL : S.2.1 = 0
  · rw [if_neg (fun z => z hL)]
    exact hQ1 hL
  rw [if_pos hL]
  obtain ⟨q', hq'⟩ : ∃ q', q' = if q = 0 then 5 else q - 1 := ⟨_, rfl⟩
  have hq6 : q' < 6 := by rw [hq']; split <;> omega
  have es : (q + 5 - 0) % 6 = q' := by rw [hq']; split <;> omega
  have hs := h4 0 (by omega)
  rw [es] at hs
  have common : kE 35 31 [.ref 0] [] (mset M 0 4 (nI q')) Q := by
    have e4 : mset M 0 4 (nI q') 0 4 = nI q' := mset_eq _ _ _ _
    simp only [e35_0, e35_1, e35_4, e35_7, e35_9, e35_10, e35_11, e35_12, e35_15, e35_18, e35_19, e35_22, e35_23, e35_26, e35_27, e35_28, e35_31, e35_32, e35_35, e35_36, e35_39, e35_40, e35_43, e35_44, e35_47, e35_48, e35_48r, e35_49, e35_52, e35_53, e35_54, e35_57, e35_58, e35_61, eq_self, kcat_nil, kcat_int, kcat_long, kcat_ref, kNL_int, kNL_ref, kNL_null, Option.toList_some, Option.toList_none, List.nil_append, List.cons_append, Nat.reduceAdd, Nat.reduceLeDiff, Nat.reduceEqDiff, true_and, and_true, true_or, or_true, false_or, or_false, ite_true, ite_false, tp1, tp3, tp5, tp6, tp8, e4, kin_nI hq6 (by decide), nI_clamp (show q' < 2 ^ 31 by omega), tp36, tp18]
    refine x_copyFrom st1 (stS hq6) (by omega) (hs.off (fun c hc hc2 => mset_off (show c ≠ 0 by omega))) (nI_01 (h49 (by omega))) (fun M1 r1 o1 => ?_)
    have e5 : M1 0 5 = nI S.2.1 := by rw [o1 0 (by omega), mset_ne (by omega)]; exact h5
    have em : nI S.2.1 - 1 = nI (S.2.1 - 1) := by rw [show (1 : Int32) = nI 1 from rfl, pk_sub (by omega)]
    simp only [e35_0, e35_1, e35_4, e35_7, e35_9, e35_10, e35_11, e35_12, e35_15, e35_18, e35_19, e35_22, e35_23, e35_26, e35_27, e35_28, e35_31, e35_32, e35_35, e35_36, e35_39, e35_40, e35_43, e35_44, e35_47, e35_48, e35_48r, e35_49, e35_52, e35_53, e35_54, e35_57, e35_58, e35_61, eq_self, kcat_nil, kcat_int, kcat_long, kcat_ref, kNL_int, kNL_ref, kNL_null, Option.toList_some, Option.toList_none, List.nil_append, List.cons_append, Nat.reduceAdd, Nat.reduceLeDiff, Nat.reduceEqDiff, true_and, and_true, true_or, or_true, false_or, or_false, ite_true, ite_false, tp5, e5, em, mset_eq]
    have om : ∀ c, c ≠ 0 → (c < 1 ∨ 21 ≤ c) → mset M1 0 5 (nI (S.2.1 - 1)) c = M c := fun c hc hc2 => by rw [mset_off hc, o1 c (by omega), mset_off hc]
    refine hQ _ (by omega) ⟨r1.off (fun c hc hc2 => mset_off (by omega)), ⟨q', hq6, by rw [mset_ne (by omega), o1 0 (by omega)]; exact e4, fun j hj => ?_⟩, mset_eq _ _ _ _, ?_, by rw [om 162 (by decide) (by decide)]; exact h7, h8, fun i hi => by rw [om 163 (by decide) (by decide)]; exact h9 i hi⟩ (fun c hc => om c (by omega) (by omega))
    · have hj : j < S.2.1 - 1 := hj
      have e : (q' + 5 - j) % 6 = (q + 5 - (j + 1)) % 6 := by rw [hq']; split <;> omega
      rw [e]
      exact (h4 (j + 1) (by omega)).off (fun c hc hc2 => om c (by omega) (by omega))
    · show S.2.1 - 1 ≤ 6
      omega
  by_cases hq : q = 0
  · rw [if_neg (fun z => z hq)]
    rw [hq', if_pos hq] at common
    exact common
  · rw [if_pos hq]
    rw [hq', if_neg hq] at common
    have em : nI q - 1 = nI (q - 1) := by rw [show (1 : Int32) = nI 1 from rfl, pk_sub (by omega)]
    rw [em]
    exact common
