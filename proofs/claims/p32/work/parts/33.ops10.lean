/-! shaking -/
theorem drop_out {p : NR} {its A op i : Nat} : ∀ k, (∀ j, j < k → i ≠ its + j ∧ i ≠ its + 12 + j) → dropN p its A op k i = p i := by
  intro k
  induction k with
  | zero => intro _; rfl
  | succ k ih =>
    intro h
    rw [dropN, nu_ne (h k (by omega)).2, nu_ne (h k (by omega)).1]
    exact ih (fun j hj => h j (by omega))
theorem dropV_sum {p : NR} {its A op : Nat} (hop : op ≤ 1000) : ∀ k, k ≤ 10 → dropV p its A op k ≤ nsum (fun j => p (its + j)) k := by
  intro k
  induction k with
  | zero => intro _; exact Nat.le_refl _
  | succ k ih =>
    intro hk
    have a := ih (by omega)
    have b := fall_le (m := dropN p its A op k (its + k)) (d := A - k) hop
    have e : dropN p its A op k (its + k) = p (its + k) := drop_out k (fun j hj => ⟨by omega, by omega⟩)
    rw [dropV, nsum]
    rw [e] at b ⊢
    omega
theorem trV_le {p : NR} {t : Nat} (ht : t < 7) (hA : p (25 + t) ≤ 9) : trV p t ≤ totN p := by
  have a := dropV_sum (p := p) (its := 53 + 12 * t) (A := p (25 + t)) (op := openN p t) open_le (p (25 + t)) (by omega)
  have b := nsum_le_n (f := fun j => p (53 + 12 * t + j)) (show p (25 + t) ≤ 10 by omega)
  have c := nsum_ge (f := fun t => sumN p (53 + 12 * t) + p (53 + 12 * t + 10) + p (53 + 12 * t + 11)) (i := t) (n := 7) ht
  rw [← tot_block] at c
  have d : sumN p (53 + 12 * t) = nsum (fun j => p (53 + 12 * t + j)) 10 := rfl
  unfold trV
  omega
theorem shV_le {p : NR} {n T : Nat} (h : MInv p T) (hn : n ≤ 6) : ∀ j, j ≤ n → shV p n j ≤ j * 99990 := by
  intro j
  induction j with
  | zero => intro _; exact Nat.zero_le _
  | succ j ih =>
    intro hj
    have a := ih (by omega)
    have b := sh_MInv h hn j (by omega)
    have c := trV_le (p := shN p n j) (t := n - 1 - j) (by omega) (b.2.2.2.2.2.1 _ (by omega))
    have d := b.2.2.2.2.2.2.2
    have e := b.2.2.2.2.2.2.1
    rw [shV]
    omega
theorem minV_le {p : NR} {T : Nat} (h : MInv p T) : minV p ≤ 599940 := by
  have a := shV_le h h.2.2.2.1 (p 24) (Nat.le_refl _)
  have b := h.2.2.2.1
  unfold minV
  omega
theorem min_low {p : NR} {i : Nat} (h : i < 51) : minN p i = p i := by
  unfold minN panN
  rw [nu_ne (by omega), nu_ne (by omega), nu_ne (by omega), sh_low (by omega)]
theorem min_51 (p : NR) : minN p 51 = p 51 + 1 := by
  unfold minN
  rw [nu_ne (by omega), nu_eq, sh_low (by omega)]
theorem min_52 (p : NR) : minN p 52 = minV p := by
  unfold minN
  rw [nu_eq]
theorem min_MInv {p : NR} {T : Nat} (h : MInv p T) : MInv (minN p) T := by
  have hn := h.2.2.2.1
  have hM := sh_MInv h hn (p 24) (Nat.le_refl _)
  have lo : ∀ i, i < 51 → minN p i = p i := fun i hi => min_low hi
  have ht : totN (minN p) ≤ totN (shN p (p 24) (p 24)) := by
    unfold minN
    rw [tot_nu_out (by omega), tot_nu_out (by omega)]
    unfold panN
    have := tot_nu (p := shN p (p 24) (p 24)) (i := 53 + 12 * p 24) (v := shN p (p 24) (p 24) (53 + 12 * p 24) - shN p (p 24) (p 24) (53 + 12 * p 24) * shN p (p 24) (p 24) 22 / 1000) (by omega) (by omega)
    omega
  obtain ⟨h1, h2, h3, h4, h5, h6, h7, h8⟩ := h
  refine ⟨by rw [lo 20 (by omega)]; exact h1, by rw [lo 21 (by omega)]; exact h2, by rw [lo 22 (by omega)]; exact h3, by rw [lo 24 (by omega)]; exact h4, fun t ht => ?_, fun t ht => by rw [lo _ (by omega)]; exact h6 t ht, h7, Nat.le_trans ht hM.2.2.2.2.2.2.2⟩
  rw [lo 24 (by omega)] at ht
  rw [lo _ (by omega)]
  exact h5 t ht
theorem tr_stk {p : NR} {s t : Nat} (hA : p (25 + s) ≤ 9) (h : s < t) : trN p s (53 + 12 * t + 10) = p (53 + 12 * t + 10) := by
  unfold trN blindN
  rw [nu_ne (by omega), nu_ne (by omega)]
  exact drop_out _ (fun j hj => ⟨by omega, by omega⟩)
theorem sh_stk {p : NR} {n T t : Nat} (h : MInv p T) (hn : n ≤ 6) (ht : n ≤ t) : ∀ j, j ≤ n → shN p n j (53 + 12 * t + 10) = p (53 + 12 * t + 10) := by
  intro j
  induction j with
  | zero => intro _; rfl
  | succ j ih =>
    intro hj
    have b := sh_MInv h hn j (by omega)
    rw [shN, tr_stk (b.2.2.2.2.2.1 _ (by omega)) (by omega)]
    exact ih (by omega)
theorem min_stk {p : NR} {T t : Nat} (h : MInv p T) (ht : p 24 ≤ t) : minN p (53 + 12 * t + 10) = p (53 + 12 * t + 10) := by
  unfold minN panN
  rw [nu_ne (by omega), nu_ne (by omega), nu_ne (by omega)]
  exact sh_stk h h.2.2.2.1 ht _ (Nat.le_refl _)
def mN (p : NR) : Nat → NR
  | 0 => p
  | j + 1 => minN (mN p j)
def mS (p : NR) : Nat → Nat
  | 0 => 0
  | j + 1 => mS p j + minV (mN p j)
theorem m_MInv {p : NR} {T : Nat} (h : MInv p T) : ∀ j, MInv (mN p j) T := by
  intro j
  induction j with
  | zero => exact h
  | succ j ih => exact min_MInv ih
theorem m_low {p : NR} {i : Nat} (h : i < 51) : ∀ j, mN p j i = p i := by
  intro j
  induction j with
  | zero => rfl
  | succ j ih => rw [mN, min_low h, ih]
theorem m_51 (p : NR) : ∀ j, mN p j 51 = p 51 + j := by
  intro j
  induction j with
  | zero => rfl
  | succ j ih => rw [mN, min_51, ih]; omega
theorem m_stk {p : NR} {T t : Nat} (h : MInv p T) (ht : p 24 ≤ t) : ∀ j, mN p j (53 + 12 * t + 10) = p (53 + 12 * t + 10) := by
  intro j
  induction j with
  | zero => rfl
  | succ j ih => rw [mN, min_stk (m_MInv h j) (by rw [m_low (by omega)]; exact ht), ih]
theorem mS_le {p : NR} {T : Nat} (h : MInv p T) : ∀ j, mS p j ≤ 599940 * j := by
  intro j
  induction j with
  | zero => exact Nat.le_refl _
  | succ j ih =>
    have := minV_le (m_MInv h j)
    rw [mS]
    omega
theorem Inv.m0 {p : NR} {N : Nat} (h : Inv p N) : MInv p (totN p) := ⟨h.2.2.1, h.2.2.2.1, h.2.2.2.2.1, h.f24, h.ap1, h.ap9, h.tot.2.2, Nat.le_refl _⟩
theorem m_Inv {p : NR} {N N' j : Nat} (h : Inv p N) (hN : N ≤ N') (hj : p 51 + j ≤ 200 * N') : Inv (mN p j) N' := by
  refine h.mv hN (fun i hi => m_low hi j) (by rw [m_51]; exact hj) ?_ (m_MInv h.m0 j).2.2.2.2.2.2.2 (fun t ht hs => by rw [m_stk h.m0 hs]; exact h.stk0 t ht hs)
  cases j with
  | zero => exact h.f52
  | succ j =>
    rw [mN, min_52]
    have := minV_le (m_MInv h.m0 j)
    omega
/-- nothing comes to a place where nothing lies, but from the sieve above, and then of a class less than its aperture -/
theorem drop_zero {p : NR} {its A op i : Nat} (hz : p i = 0) : ∀ k, (∀ j, j < k → i ≠ its + 12 + j) → dropN p its A op k i = 0 := by
  intro k
  induction k with
  | zero => intro _; exact hz
  | succ k ih =>
    intro h
    have e := ih (fun j hj => h j (by omega))
    rw [dropN, nu_ne (h k (by omega))]
    by_cases hi : i = its + k
    · subst hi
      rw [nu_eq, e, Nat.zero_sub]
    · rw [nu_ne hi, e]
theorem tr_zero {p : NR} {s t k : Nat} (hk : k < 10) (hA : p (25 + s) ≤ 9) (hz : p (53 + 12 * t + k) = 0) (h : t = s + 1 → p (25 + s) ≤ k) : trN p s (53 + 12 * t + k) = 0 := by
  unfold trN blindN
  rw [nu_ne (by omega)]
  have e : dropN p (53 + 12 * s) (p (25 + s)) (openN p s) (p (25 + s)) (53 + 12 * t + k) = 0 := drop_zero hz _ (fun j hj q => by
    have : t = s + 1 := by omega
    have := h this
    omega)
  by_cases hi : 53 + 12 * t + k = 53 + 12 * s + p (25 + s)
  · rw [← hi, nu_eq, e, Nat.zero_sub]
  · rw [nu_ne hi, e]
theorem tr_J {p : NR} {s : Nat} (hn : p 24 ≤ 6) (hs : s < p 24) (hA : p (25 + s) ≤ 9) : KJ p (trN p s) := fun hJ => by
  refine ⟨fun t ht => ?_, fun t k ht hk ha => ?_⟩
  · rw [tr_low (by omega)] at ht
    rw [tr_low (by omega), tr_low (by omega)]
    exact hJ.1 t ht
  · rw [tr_low (by omega)] at ht ha
    exact tr_zero hk hA (hJ.2 t k ht hk ha) (fun e => by rw [← show t = s from by omega]; exact ha)
theorem sh_J {p : NR} {T : Nat} (h : MInv p T) : ∀ j, j ≤ p 24 → KJ p (shN p (p 24) j) := by
  intro j
  induction j with
  | zero => intro _ hJ; exact hJ
  | succ j ih =>
    intro hj hJ
    have b := sh_MInv h h.2.2.2.1 j (by omega)
    have e : shN p (p 24) j 24 = p 24 := sh_low (by decide) j
    exact tr_J b.2.2.2.1 (by rw [e]; omega) (b.2.2.2.2.2.1 _ (by have := h.2.2.2.1; omega)) (ih (by omega) hJ)
theorem min_J {p : NR} {T : Nat} (h : MInv p T) : KJ p (minN p) := fun hJ => by
  have hn := h.2.2.2.1
  have e24 : shN p (p 24) (p 24) 24 = p 24 := sh_low (by decide) _
  refine (sh_J h (p 24) (Nat.le_refl _) hJ).less (by rw [e24]; exact hn) (fun i _ h2 => ?_) (fun t k ht hk hz => ?_)
  · rw [min_low (by omega), sh_low (by omega)]
  · unfold minN panN
    rw [nu_ne (by omega), nu_ne (by omega)]
    by_cases hi : 53 + 12 * (t + 1) + k = 53 + 12 * p 24
    · rw [← hi, nu_eq, hz, Nat.zero_sub]
    · rw [nu_ne hi, hz]
theorem m_J {p : NR} {T : Nat} (h : MInv p T) : ∀ j, KJ p (mN p j) := by
  intro j
  induction j with
  | zero => exact fun hJ => hJ
  | succ j ih => exact fun hJ => min_J (m_MInv h j) (ih hJ)
/-- above the stack's trays nothing changes -/
theorem tr_hi {p : NR} {s i : Nat} (hA : p (25 + s) ≤ 9) (h : 53 + 12 * (s + 2) ≤ i) : trN p s i = p i := by
  unfold trN blindN
  rw [nu_ne (by omega), nu_ne (by omega)]
  exact drop_out _ (fun j hj => ⟨by omega, by omega⟩)
theorem sh_hi {p : NR} {T i : Nat} (h : MInv p T) (hi : 53 + 12 * (p 24 + 1) ≤ i) : ∀ j, j ≤ p 24 → shN p (p 24) j i = p i := by
  intro j
  induction j with
  | zero => intro _; rfl
  | succ j ih =>
    intro hj
    have b := sh_MInv h h.2.2.2.1 j (by omega)
    rw [shN, tr_hi (b.2.2.2.2.2.1 _ (by have := h.2.2.2.1; omega)) (by omega)]
    exact ih (by omega)
theorem min_hi {p : NR} {T i : Nat} (h : MInv p T) (hi : 53 + 12 * (p 24 + 1) ≤ i) : minN p i = p i := by
  unfold minN panN
  rw [nu_ne (by omega), nu_ne (by omega), nu_ne (by omega)]
  exact sh_hi h hi _ (Nat.le_refl _)
theorem min_tot {p : NR} {T : Nat} (h : MInv p T) : totN (minN p) ≤ totN p := by
  have h0 : MInv p (totN p) := ⟨h.1, h.2.1, h.2.2.1, h.2.2.2.1, h.2.2.2.2.1, h.2.2.2.2.2.1, Nat.le_trans h.2.2.2.2.2.2.2 h.2.2.2.2.2.2.1, Nat.le_refl _⟩
  exact (min_MInv h0).2.2.2.2.2.2.2
theorem min_kept {p : NR} {T : Nat} (h : MInv p T) : keptN (minN p) ≤ keptN p := by
  have hn := h.2.2.2.1
  have e24 : minN p 24 = p 24 := min_low (by decide)
  have a := min_tot h
  have b := tot_block p
  have c := tot_block (minN p)
  have s1 := nsum_split (fun t => sumN p (53 + 12 * t) + p (53 + 12 * t + 10) + p (53 + 12 * t + 11)) (p 24 + 1) (6 - p 24)
  have s2 := nsum_split (fun t => sumN (minN p) (53 + 12 * t) + minN p (53 + 12 * t + 10) + minN p (53 + 12 * t + 11)) (p 24 + 1) (6 - p 24)
  rw [show p 24 + 1 + (6 - p 24) = 7 from by omega] at s1 s2
  have e : nsum (fun k => sumN (minN p) (53 + 12 * (p 24 + 1 + k)) + minN p (53 + 12 * (p 24 + 1 + k) + 10) + minN p (53 + 12 * (p 24 + 1 + k) + 11)) (6 - p 24) = nsum (fun k => sumN p (53 + 12 * (p 24 + 1 + k)) + p (53 + 12 * (p 24 + 1 + k) + 10) + p (53 + 12 * (p 24 + 1 + k) + 11)) (6 - p 24) := nsum_congr (fun k hk => by
    have e1 : sumN (minN p) (53 + 12 * (p 24 + 1 + k)) = sumN p (53 + 12 * (p 24 + 1 + k)) := nsum_congr (fun j _ => min_hi h (by omega))
    rw [e1, min_hi h (by omega), min_hi h (by omega)])
  unfold keptN
  rw [e24]
  omega
theorem m_kept {p : NR} {T : Nat} (h : MInv p T) : ∀ j, keptN (mN p j) ≤ keptN p := by
  intro j
  induction j with
  | zero => exact Nat.le_refl _
  | succ j ih => exact Nat.le_trans (min_kept (m_MInv h j)) ih
theorem m_KS {p : NR} {N : Nat} (h : Inv p N) (h49 : p 49 = 1) (m : Nat) : p 49 = 1 ∧ mN p m 49 = 1 ∧ mN p m 50 = p 50 ∧ keptN (mN p m) ≤ keptN p := ⟨h49, by rw [m_low (by decide)]; exact h49, m_low (by decide) m, m_kept h.m0 m⟩
theorem op_shake (x : Int32) : XOK KS2 30 [.int x] := by
  intro S N hN hI
  have n10 : ¬ (1 : Int32) = 0 := by decide
  have z := z49 hI.1
  rcases rng x 1 200 (by decide) (by decide) with h | ⟨m, m1, m2, rfl⟩
  · have h' : ¬ (1 ≤ x ∧ x ≤ 200) := h
    refine ⟨-1, S, hI.mono, Or.inl ⟨by decide, rfl⟩, fun M Q hX hQ => ?_⟩
    · show kE 30 0 [.ref 0, .int x, .null, .null] [] M Q
      simp only [e30_0, e30_1, e30_2, e30_5, e30_8, e30_11, e30_12, e30_13, e30_14, e30_17, e30_20, e30_23, e30_25, e30_26, e30_27, e30_30, e30_31, e30_32, e30_33, e30_35, e30_36, e30_39, e30_40, e30_41, e30_44, e30_47, e30_48, e30_49, e30_52, e30_55, e30_56, eq_self, kcat_nil, kcat_int, kcat_long, kcat_ref, kNL_int, kNL_ref, kNL_null, Option.toList_some, Option.toList_none, List.nil_append, List.cons_append, Nat.reduceAdd, Nat.reduceLeDiff, Nat.reduceEqDiff, true_and, and_true, true_or, or_true, false_or, or_false, ite_true, ite_false, x_isIn, h', if_false, not_true_eq_false]
      exact hQ M hX Fx.rfl'
  have c : (1 : Int32) ≤ nI m ∧ nI m ≤ 200 := rng_in (lo := 1) (hi := 200) m1 m2 (by decide)
  by_cases h49 : S.1 49 = 0
  · refine ⟨-2, S, hI.mono, Or.inl ⟨by decide, rfl⟩, fun M Q hX hQ => ?_⟩
    · show kE 30 0 [.ref 0, .int (nI m), .null, .null] [] M Q
      have e2 : M 1 10 = nI (S.1 49) := hX.1.f49
      simp only [e30_0, e30_1, e30_2, e30_5, e30_8, e30_11, e30_12, e30_13, e30_14, e30_17, e30_20, e30_23, e30_25, e30_26, e30_27, e30_30, e30_31, e30_32, e30_33, e30_35, e30_36, e30_39, e30_40, e30_41, e30_44, e30_47, e30_48, e30_49, e30_52, e30_55, e30_56, eq_self, kcat_nil, kcat_int, kcat_long, kcat_ref, kNL_int, kNL_ref, kNL_null, Option.toList_some, Option.toList_none, List.nil_append, List.cons_append, Nat.reduceAdd, Nat.reduceLeDiff, Nat.reduceEqDiff, true_and, and_true, true_or, or_true, false_or, or_false, ite_true, ite_false, tp1, tp5, tp18, e2, c, x_isIn, and_self, n10, not_false_eq_true, z, h49, if_false, not_true_eq_false]
      exact hQ M hX Fx.rfl'
  have hm := m_MInv hI.1.m0
  refine ⟨nI (mS S.1 m), (mN S.1 m, (sav S).2), hI.sav.cur (m_Inv hI.1 (by omega) (by have := hI.1.f51; omega)), Or.inr ⟨nI_pos' (by have := mS_le hI.1.m0 m; omega), rfl, m_J hI.1.m0 m, m_KS hI.1 (by have := hI.1.f49; omega) m⟩, fun M Q hX hQ => ?_⟩
  · show kE 30 0 [.ref 0, .int (nI m), .null, .null] [] M Q
    have e2 : M 1 10 = nI (S.1 49) := hX.1.f49
    simp only [e30_0, e30_1, e30_2, e30_5, e30_8, e30_11, e30_12, e30_13, e30_14, e30_17, e30_20, e30_23, e30_25, e30_26, e30_27, e30_31, e30_32, e30_33, e30_34, e30_35, e30_36, e30_39, e30_40, e30_41, e30_44, e30_47, e30_48, e30_49, e30_52, e30_55, e30_56, eq_self, kcat_nil, kcat_int, kcat_long, kcat_ref, kNL_int, kNL_ref, kNL_null, Option.toList_some, Option.toList_none, List.nil_append, List.cons_append, Nat.reduceAdd, Nat.reduceLeDiff, Nat.reduceEqDiff, true_and, and_true, true_or, or_true, false_or, or_false, ite_true, ite_false, tp1, tp5, tp18, e2, c, x_isIn, and_self, n10, not_false_eq_true, z, h49, if_false]
    refine x_saveState hX hI.1.f49 (fun M1 hX1 hF _ _ _ => ?_)
    have loop : ∀ d j, j + d = m → ∀ M3, StR 1 M3 (nr (mN S.1 j)) → Off 1 M1 M3 → kE 30 34 [.ref 0, .int (nI m), .int (nI (mS S.1 j)), .int (nI j)] [] M3 Q := by
      intro d
      induction d with
      | zero =>
        intro j hj M3 hR3 hO3
        have : j = m := by omega
        subst this
        have le : nI j ≤ nI j := nI_le (Nat.le_refl _) (by omega)
        rw [e30_34]
        simp only [e30_0, e30_1, e30_2, e30_5, e30_8, e30_11, e30_12, e30_13, e30_14, e30_17, e30_20, e30_23, e30_25, e30_26, e30_27, e30_30, e30_31, e30_32, e30_33, e30_35, e30_36, e30_39, e30_40, e30_41, e30_44, e30_47, e30_48, e30_49, e30_52, e30_55, e30_56, eq_self, kcat_nil, kcat_int, kcat_long, kcat_ref, kNL_int, kNL_ref, kNL_null, Option.toList_some, Option.toList_none, List.nil_append, List.cons_append, Nat.reduceAdd, Nat.reduceLeDiff, Nat.reduceEqDiff, true_and, and_true, true_or, or_true, false_or, or_false, ite_true, ite_false, le]
        exact hQ _ (hX1.cur hO3 hR3) (fx1 hF hO3)
      | succ d ih =>
        intro j hj M3 hR3 hO3
        have nle : ¬ nI m ≤ nI j := nI_ge (by omega) (by omega)
        rw [e30_34]
        simp only [e30_0, e30_1, e30_2, e30_5, e30_8, e30_11, e30_12, e30_13, e30_14, e30_17, e30_20, e30_23, e30_25, e30_26, e30_27, e30_30, e30_31, e30_32, e30_33, e30_35, e30_36, e30_39, e30_40, e30_41, e30_44, e30_48, e30_49, e30_52, e30_55, e30_56, eq_self, kcat_nil, kcat_int, kcat_long, kcat_ref, kNL_int, kNL_ref, kNL_null, Option.toList_some, Option.toList_none, List.nil_append, List.cons_append, Nat.reduceAdd, Nat.reduceLeDiff, Nat.reduceEqDiff, true_and, and_true, true_or, or_true, false_or, or_false, ite_true, ite_false, nle, if_false, tp1, tp5, tp18]
        refine x_minute st1 hR3 (hm j) (fun M4 hR4 hO4 => ?_)
        simp only [e30_0, e30_1, e30_2, e30_5, e30_8, e30_11, e30_12, e30_13, e30_14, e30_17, e30_20, e30_23, e30_25, e30_26, e30_27, e30_30, e30_31, e30_32, e30_33, e30_35, e30_36, e30_39, e30_40, e30_41, e30_44, e30_47, e30_48, e30_49, e30_52, e30_55, e30_56, eq_self, kcat_nil, kcat_int, kcat_long, kcat_ref, kNL_int, kNL_ref, kNL_null, Option.toList_some, Option.toList_none, List.nil_append, List.cons_append, Nat.reduceAdd, Nat.reduceLeDiff, Nat.reduceEqDiff, true_and, and_true, true_or, or_true, false_or, or_false, ite_true, ite_false, nI_add, nI_add1]
        exact ih (j + 1) (by omega) M4 hR4 (hO3.trans hO4)
    simp only [e30_0, e30_1, e30_2, e30_5, e30_8, e30_11, e30_12, e30_13, e30_14, e30_17, e30_20, e30_23, e30_25, e30_26, e30_27, e30_30, e30_31, e30_32, e30_33, e30_35, e30_36, e30_39, e30_40, e30_41, e30_44, e30_47, e30_48, e30_49, e30_52, e30_55, e30_56, eq_self, kcat_nil, kcat_int, kcat_long, kcat_ref, kNL_int, kNL_ref, kNL_null, Option.toList_some, Option.toList_none, List.nil_append, List.cons_append, Nat.reduceAdd, Nat.reduceLeDiff, Nat.reduceEqDiff, true_and, and_true, true_or, or_true, false_or, or_false, ite_true, ite_false]
    exact loop m 0 (by omega) M1 hX1.1 Off.rfl'
