/-! the class's minute -/
theorem StR.ap {o : Nat} {M : KMem} {r : Row} (h : StR o M r) {t : Nat} (ht : t < 6) (hs : t < (r 24).toNatClampNeg) : M (o + 6 + 2 * t) 1 = r (25 + t) := h.2.1 t ht hs
theorem nr_nu_ne {p : NR} {i j v : Nat} (h : j ≠ i) : nr (nu p i v) j = nI (p j) := by unfold nr; rw [nu_ne h]
theorem nr_nu_eq {p : NR} {i v : Nat} : nr (nu p i v) i = nI v := by unfold nr; rw [nu_eq]
theorem drop_st {o t A op f : Nat} {M : KMem} {q : NR} (ho : isSt o) (ht : t < 6) (hA : A ≤ 9) (hop : op ≤ 1000) (htot : totN q ≤ 99990) (h : StR o M (nr (nu q 52 f))) :
    ∀ k, k ≤ A → StR o (kdr M (o + 7 + 2 * t) (o + 7 + 2 * (t + 1)) (nI op) A k) (nr (nu (dropN q (53 + 12 * t) A op k) 52 f)) ∧ kdf M (o + 7 + 2 * t) (o + 7 + 2 * (t + 1)) (nI op) A k = nI (dropV q (53 + 12 * t) A op k) ∧ Off o M (kdr M (o + 7 + 2 * t) (o + 7 + 2 * (t + 1)) (nI op) A k) := by
  intro k
  induction k with
  | zero => intro _; exact ⟨h, rfl, Off.rfl'⟩
  | succ k ih =>
    intro hk
    obtain ⟨h1, h2, h3⟩ := ih (by omega)
    rw [kdr, kdf, dropN, dropV, h2]
    have htq : totN (dropN q (53 + 12 * t) A op k) ≤ 99990 := by rw [drop_tot hop (by omega) (by omega) k (by omega)]; exact htot
    generalize kdr M (o + 7 + 2 * t) (o + 7 + 2 * (t + 1)) (nI op) A k = M1 at h1 h3 ⊢
    generalize dropN q (53 + 12 * t) A op k = q1 at h1 htq ⊢
    have e1 : M1 (o + 7 + 2 * t) k = nI (q1 (53 + 12 * t + k)) := by
      rw [h1.ly (by omega) (show k < 10 by omega), nr_nu_ne (by omega)]
    have e2 : M1 (o + 7 + 2 * (t + 1)) k = nI (q1 (53 + 12 * t + 12 + k)) := by
      rw [h1.ly (by omega) (show k < 10 by omega), nr_nu_ne (by omega), show 53 + 12 * (t + 1) + k = 53 + 12 * t + 12 + k from by omega]
    have b1 := tot_ge (p := q1) (i := 53 + 12 * t + k) (by omega) (by omega)
    have hfl := fall_le (m := q1 (53 + 12 * t + k)) (d := A - k) hop
    rw [e1, e2, pk_sub (by omega), xfall_nI (by omega) hop (by omega), pk_sub hfl, nI_add, nI_add]
    generalize fallN (q1 (53 + 12 * t + k)) op (A - k) = m at hfl
    refine ⟨?_, rfl, (h3.mset (by omega) (by omega)).mset (by omega) (by omega)⟩
    have s1 := h1.setLy (t := t) (k := k) (by omega) (by omega) (nI (q1 (53 + 12 * t + k) - m))
    have s2 := s1.setLy (t := t + 1) (k := k) (by omega) (by omega) (nI (q1 (53 + 12 * t + 12 + k) + m))
    rw [nr_upd, nr_upd, show 53 + 12 * (t + 1) + k = 53 + 12 * t + 12 + k from by omega, nu_comm (i := 52) (by omega), nu_comm (i := 52) (by omega)] at s2
    exact s2
theorem x_minute {o : Nat} {M : KMem} {p : NR} {T : Nat} {Q : Option Value → KMem → Prop} (ho : isSt o) (hR : StR o M (nr p)) (hI : MInv p T)
    (hQ : ∀ M', StR o M' (nr (minN p)) → Off o M M' → Q (some (.int (nI (minV p)))) M') : kE 9 0 [.ref o, .null] [] M Q := by
  obtain ⟨n, hn⟩ : ∃ n, n = p 24 := ⟨_, rfl⟩
  have hn6 : n ≤ 6 := by rw [hn]; exact hI.2.2.2.1
  have loop : ∀ k, k ≤ n → ∀ M1, StR o M1 (nr (nu (shN p n (n - k)) 52 (shV p n (n - k)))) → Off o M M1 → kE 9 12 [.ref o, .int (nI k - 1)] [] M1 Q := by
    intro k
    induction k with
    | zero =>
      intro _ M1 h hO
      have hM := sh_MInv hI hn6 n (Nat.le_refl _)
      rw [Nat.sub_zero] at h
      have e24 : M1 o 5 = nI n := by rw [h.f24, nr_nu_ne (by decide), sh_low (by decide), hn]
      have c0 : (nI 0 - 1 : Int32) < 0 := by decide
      have k0 : kin (0 : Int32) 10 = true := by decide
      have z0 : (0 : Int32).toNatClampNeg = 0 := rfl
      have hk : ¬ (1000 : Int32) = 0 := by decide
      have nO : o ≠ o + 7 + 2 * n := by omega
      rw [e9_12]
      simp only [e9_0, e9_1, e9_2, e9_5, e9_6, e9_9, e9_10, e9_11, e9_13, e9_16, e9_17, e9_17r, e9_18, e9_21, e9_22, e9_25, e9_26, e9_27, e9_28, e9_31, e9_32, e9_33, e9_34, e9_35, e9_36, e9_39, e9_42, e9_43, e9_46, e9_47, e9_50, e9_51, e9_52, e9_53, e9_56, e9_59, e9_62, e9_65, e9_66, e9_69, e9_70, e9_73, e9_74, e9_77, e9_78, e9_79, e9_80, e9_81, e9_82, e9_83, e9_84, e9_85, e9_86, e9_89, e9_90, e9_93, e9_94, e9_95, e9_96, e9_97, e9_97r, e9_98, e9_101, e9_102, e9_103, e9_106, e9_107, e9_110, eq_self, kcat_nil, kcat_int, kcat_long, kcat_ref, kNL_int, kNL_ref, kNL_null, Option.toList_some, Option.toList_none, List.nil_append, List.cons_append, Nat.reduceAdd, Nat.reduceLeDiff, Nat.reduceEqDiff, true_and, and_true, true_or, or_true, false_or, or_false, ite_true, ite_false, c0, kd_o ho, rf_o2 ho, kd_o3 ho, ln_o3 ho, e24, kin_nI (show n < 7 by omega) (by decide), nI_clamp (show n < 2 ^ 31 by omega), rf_tr ho, kd_tr ho (show n < 7 by omega), rf_ly ho (show n < 7 by omega), kd_ly ho (show n < 7 by omega), ln_ly ho (show n < 7 by omega), k0, z0, hk, not_false_eq_true, mset_off nO]
      have e52 : M1 o 13 = nI (shV p n n) := by rw [h.f52, nr_nu_eq]
      have e51 : M1 o 12 = nI (shN p n n 51) := by rw [h.f51, nr_nu_ne (by decide)]
      have e22 : M1 o 8 = nI (shN p n n 22) := by rw [h.f22, nr_nu_ne (by decide)]
      have ep : M1 (o + 7 + 2 * n) 0 = nI (shN p n n (53 + 12 * n)) := by rw [h.ly (by omega) (show 0 < 10 by decide), nr_nu_ne (by omega)]; rfl
      have hb := tot_ge (p := shN p n n) (i := 53 + 12 * n) (by omega) (by omega)
      have hb2 : totN (shN p n n) ≤ 99990 := Nat.le_trans hM.2.2.2.2.2.2.2 hM.2.2.2.2.2.2.1
      have h22 : shN p n n 22 ≤ 100 := hM.2.2.1
      have hmul : shN p n n (53 + 12 * n) * shN p n n 22 ≤ 99990 * 100 := Nat.mul_le_mul (by omega) h22
      have hdl : shN p n n (53 + 12 * n) * shN p n n 22 / 1000 ≤ shN p n n (53 + 12 * n) := mul_div_le (by omega)
      rw [mset_ne (show ¬ (o = o ∧ 13 = 12) by omega), mset_off nO, e52, e51, e22, ep, pk_mul, show (1000 : Int32) = nI 1000 from rfl, pk_div (by omega) (by decide) (by decide), pk_sub hdl, nI_add1]
      have hV : minV p = shV p n n := by unfold minV; rw [← hn]
      rw [← hV]
      refine hQ _ ?_ ((hO.mset (by omega) (by omega)).mset (by omega) (by omega))
      have s1 := h.setLy (t := n) (k := 0) (by omega) (by decide) (nI (shN p n n (53 + 12 * n) - shN p n n (53 + 12 * n) * shN p n n 22 / 1000))
      have s2 := s1.set 51 (by decide) (by unfold isAp; omega) (by decide) (c := o) (j := 12) rfl rfl (nI (shN p n n 51 + 1))
      rw [nr_upd, nr_upd] at s2
      refine s2.congr (fun i _ => congrArg nI ?_)
      unfold minN panN
      rw [← hn, hV, nu_comm (i := 52) (by omega), nu_comm (i := 52) (by decide)]
      rfl
    | succ k ih =>
      intro hk M1 h hO
      obtain ⟨j, hj⟩ : ∃ j, j = n - (k + 1) := ⟨_, rfl⟩
      rw [← hj] at h
      have hM := sh_MInv hI hn6 j (by omega)
      have hqn : shN p n j 24 = p 24 := sh_low (by decide) j
      have hjk : n - 1 - j = k := by omega
      have hnk : n - k = j + 1 := by omega
      have ih := ih (by omega)
      rw [hnk, shN, shV, hjk] at ih
      generalize shN p n j = q at h hM ih hqn
      generalize shV p n j = f at h ih
      have hk6 : k < 6 := by omega
      have hap9 : q (25 + k) ≤ 9 := hM.2.2.2.2.2.1 k hk6
      have h24 : (nr (nu q 52 f) 24).toNatClampNeg = q 24 := by rw [nr_nu_ne (by decide), nI_clamp (by have := hM.2.2.2.1; omega)]
      have hq24 : q 24 = n := by rw [hqn, hn]
      have htot : totN q ≤ 99990 := Nat.le_trans hM.2.2.2.2.2.2.2 hM.2.2.2.2.2.2.1
      have eA : M1 (o + 6 + 2 * k) 1 = nI (q (25 + k)) := by rw [h.ap hk6 (by rw [h24, hq24]; omega), nr_nu_ne (by omega)]
      have eS : M1 (o + 6 + 2 * k) 2 = nI (q (53 + 12 * k + 10)) := by rw [h.sk (by omega), nr_nu_ne (by omega)]
      have e13 : M1 o 13 = nI f := by rw [h.f52, nr_nu_eq]
      have e6 : M1 o 6 = nI (q 20) := by rw [h.f20, nr_nu_ne (by decide)]
      have eop : xopen (nI (q (53 + 12 * k + 10))) (nI (q 20)) = nI (openN q k) := by
        have := tot_ge (p := q) (i := 53 + 12 * k + 10) (by omega) (by omega)
        rw [xopen_nI (by omega) hM.1.1 hM.1.2]
        rfl
      have ek : nI (k + 1) - 1 = nI k := by rw [show (1 : Int32) = nI 1 from rfl, pk_sub (by omega)]; rfl
      have ek2 : nI k + (-1) = nI k - 1 := (Int32.sub_eq_add_neg _ _).symm
      have nneg : ¬ nI k < 0 := nI_pos (by omega)
      obtain ⟨d1, d2, d3⟩ := drop_st (A := q (25 + k)) (op := openN q k) ho hk6 hap9 open_le htot h (q (25 + k)) (Nat.le_refl _)
      rw [e9_12]
      simp only [e9_0, e9_1, e9_2, e9_5, e9_6, e9_9, e9_10, e9_11, e9_13, e9_16, e9_17, e9_17r, e9_18, e9_21, e9_22, e9_25, e9_26, e9_27, e9_28, e9_31, e9_32, e9_33, e9_34, e9_35, e9_36, e9_39, e9_42, e9_43, e9_46, e9_47, e9_50, e9_51, e9_52, e9_53, e9_56, e9_59, e9_62, e9_65, e9_66, e9_69, e9_70, e9_73, e9_74, e9_77, e9_78, e9_79, e9_80, e9_81, e9_82, e9_83, e9_84, e9_85, e9_86, e9_89, e9_90, e9_93, e9_94, e9_95, e9_96, e9_97, e9_97r, e9_98, e9_101, e9_102, e9_103, e9_106, e9_107, e9_110, eq_self, kcat_nil, kcat_int, kcat_long, kcat_ref, kNL_int, kNL_ref, kNL_null, Option.toList_some, Option.toList_none, List.nil_append, List.cons_append, Nat.reduceAdd, Nat.reduceLeDiff, Nat.reduceEqDiff, true_and, and_true, true_or, or_true, false_or, or_false, ite_true, ite_false, ek, nneg, if_false, kd_o ho, rf_o2 ho, kd_o3 ho, ln_o3 ho, kin_nI (show k < 7 by omega) (by decide), kin_nI (show k + 1 < 7 by omega) (by decide), nI_clamp (show k < 2 ^ 31 by omega), nI_clamp (show k + 1 < 2 ^ 31 by omega), rf_tr ho, nI_add1, e13, e6, kd_tr ho (show k < 7 by omega)]
      rw [x_dropOnto (kd_tr ho (show k < 7 by omega)) (rf_ly ho (show k < 7 by omega)) (kd_ly ho (show k < 7 by omega)) (ln_ly ho (show k < 7 by omega)) (kd_tr ho (show k + 1 < 7 by omega)) (rf_ly ho (show k + 1 < 7 by omega)) (kd_ly ho (show k + 1 < 7 by omega)) (ln_ly ho (show k + 1 < 7 by omega)) (by omega) eA (by omega), eS, eop, d2]
      have hq1 : ∀ i, i < 53 → dropN q (53 + 12 * k) (q (25 + k)) (openN q k) (q (25 + k)) i = q i := fun i hi => drop_low (by omega) _
      have ht1 : totN (dropN q (53 + 12 * k) (q (25 + k)) (openN q k) (q (25 + k))) ≤ 99990 := by rw [drop_tot open_le (by omega) (by omega) _ (by omega)]; exact htot
      have hV : trV q k = dropV q (53 + 12 * k) (q (25 + k)) (openN q k) (q (25 + k)) := rfl
      have hN : trN q k = blindN (dropN q (53 + 12 * k) (q (25 + k)) (openN q k) (q (25 + k))) (53 + 12 * k) (q (25 + k)) := rfl
      rw [hV, hN] at ih
      generalize dropV q (53 + 12 * k) (q (25 + k)) (openN q k) (q (25 + k)) = V at ih ⊢
      generalize dropN q (53 + 12 * k) (q (25 + k)) (openN q k) (q (25 + k)) = q1 at ih d1 hq1 ht1
      generalize kdr M1 (o + 7 + 2 * k) (o + 7 + 2 * (k + 1)) (nI (openN q k)) (q (25 + k)) (q (25 + k)) = M2 at d1 d3 ⊢
      have nT : o + 6 + 2 * k ≠ o := by omega
      have nL : o + 7 + 2 * k ≠ o := by omega
      have g24 : (nr (nu q1 52 f) 24).toNatClampNeg = n := by rw [nr_nu_ne (by decide), hq1 24 (by decide), hq24, nI_clamp (by omega)]
      have gA : M2 (o + 6 + 2 * k) 1 = nI (q (25 + k)) := by rw [d1.ap hk6 (by rw [g24]; omega), nr_nu_ne (by omega), hq1 _ (by omega)]
      have g7 : M2 o 7 = nI (q 21) := by rw [d1.f21, nr_nu_ne (by decide), hq1 21 (by decide)]
      have gl : M2 (o + 7 + 2 * k) (q (25 + k)) = nI (q1 (53 + 12 * k + q (25 + k))) := by rw [d1.ly (by omega) (by omega), nr_nu_ne (by omega)]
      have gs : M2 (o + 6 + 2 * k) 2 = nI (q1 (53 + 12 * k + 10)) := by rw [d1.sk (by omega), nr_nu_ne (by omega)]
      simp only [e9_0, e9_1, e9_2, e9_5, e9_6, e9_9, e9_10, e9_11, e9_13, e9_16, e9_17, e9_17r, e9_18, e9_21, e9_22, e9_25, e9_26, e9_27, e9_28, e9_31, e9_32, e9_33, e9_34, e9_35, e9_36, e9_39, e9_42, e9_43, e9_46, e9_47, e9_50, e9_51, e9_52, e9_53, e9_56, e9_59, e9_62, e9_65, e9_66, e9_69, e9_70, e9_73, e9_74, e9_77, e9_78, e9_79, e9_80, e9_81, e9_82, e9_83, e9_84, e9_85, e9_86, e9_89, e9_90, e9_93, e9_94, e9_95, e9_96, e9_97, e9_97r, e9_98, e9_101, e9_102, e9_103, e9_106, e9_107, e9_110, eq_self, kcat_nil, kcat_int, kcat_long, kcat_ref, kNL_int, kNL_ref, kNL_null, Option.toList_some, Option.toList_none, List.nil_append, List.cons_append, Nat.reduceAdd, Nat.reduceLeDiff, Nat.reduceEqDiff, true_and, and_true, true_or, or_true, false_or, or_false, ite_true, ite_false, nI_add, kd_o ho, rf_o2 ho, kd_o3 ho, ln_o3 ho, kin_nI (show k < 7 by omega) (by decide), nI_clamp (show k < 2 ^ 31 by omega), rf_tr ho, kd_tr ho (show k < 7 by omega), mset_ne (show ¬ (o = o ∧ 7 = 13) by omega), g7]
      rw [x_blind (M := mset M2 o 13 (nI (f + V))) (kd_tr ho (show k < 7 by omega)) (rf_ly ho (show k < 7 by omega)) (kd_ly ho (show k < 7 by omega)) (ln_ly ho (show k < 7 by omega)) (by rw [mset_off nT]; exact gA) (by omega), mset_off nL, mset_off nT, gl, gs]
      have hb1 := tot_ge (p := q1) (i := 53 + 12 * k + q (25 + k)) (by omega) (by omega)
      have hB : q 21 ≤ 200 := hM.2.1
      have hmul : q1 (53 + 12 * k + q (25 + k)) * q 21 ≤ 99990 * 200 := Nat.mul_le_mul (by omega) hB
      have hdl : q1 (53 + 12 * k + q (25 + k)) * q 21 / 1000 ≤ q1 (53 + 12 * k + q (25 + k)) := mul_div_le (by omega)
      rw [pk_mul, show (1000 : Int32) = nI 1000 from rfl, pk_div (by omega) (by decide) (by decide), pk_sub hdl, nI_add]
      simp only [e9_0, e9_1, e9_2, e9_5, e9_6, e9_9, e9_10, e9_11, e9_13, e9_16, e9_17, e9_17r, e9_18, e9_21, e9_22, e9_25, e9_26, e9_27, e9_28, e9_31, e9_32, e9_33, e9_34, e9_35, e9_36, e9_39, e9_42, e9_43, e9_46, e9_47, e9_50, e9_51, e9_52, e9_53, e9_56, e9_59, e9_62, e9_65, e9_66, e9_69, e9_70, e9_73, e9_74, e9_77, e9_78, e9_79, e9_80, e9_81, e9_82, e9_83, e9_84, e9_85, e9_86, e9_89, e9_90, e9_93, e9_94, e9_95, e9_96, e9_97, e9_97r, e9_98, e9_101, e9_102, e9_103, e9_106, e9_107, e9_110, eq_self, kcat_nil, kcat_int, kcat_long, kcat_ref, kNL_int, kNL_ref, kNL_null, Option.toList_some, Option.toList_none, List.nil_append, List.cons_append, Nat.reduceAdd, Nat.reduceLeDiff, Nat.reduceEqDiff, true_and, and_true, true_or, or_true, false_or, or_false, ite_true, ite_false, ek2]
      refine ih _ ?_ (((hO.trans d3).mset (by omega) (by omega)).mset (by omega) (by omega) |>.mset (by omega) (by omega))
      have s1 := d1.set 52 (by decide) (by unfold isAp; omega) (by decide) (c := o) (j := 13) rfl rfl (nI (f + V))
      have s2 := s1.setLy (t := k) (k := q (25 + k)) (by omega) (by omega) (nI (q1 (53 + 12 * k + q (25 + k)) - q1 (53 + 12 * k + q (25 + k)) * q 21 / 1000))
      have s3 := s2.setSk (t := k) (by omega) (nI (q1 (53 + 12 * k + 10) + q1 (53 + 12 * k + q (25 + k)) * q 21 / 1000))
      rw [nr_upd, nr_upd, nr_upd, nu_nu, nu_comm (i := 52) (by omega), nu_comm (i := 52) (by omega)] at s3
      have hbl : blindN q1 (53 + 12 * k) (q (25 + k)) = nu (nu q1 (53 + 12 * k + q (25 + k)) (q1 (53 + 12 * k + q (25 + k)) - q1 (53 + 12 * k + q (25 + k)) * q 21 / 1000)) (53 + 12 * k + 10) (q1 (53 + 12 * k + 10) + q1 (53 + 12 * k + q (25 + k)) * q 21 / 1000) := by
        unfold blindN
        rw [hq1 21 (by decide)]
      rw [hbl]
      exact s3
  have c1 : StR o (mset M o 13 0) (nr (nu p 52 0)) := by
    have := hR.set 52 (by decide) (by unfold isAp; omega) (by decide) (c := o) (j := 13) rfl rfl (nI 0)
    rwa [nr_upd] at this
  have e24 : M o 5 = nI n := by rw [hR.f24, hn]; rfl
  simp only [e9_0, e9_1, e9_2, e9_5, e9_6, e9_9, e9_10, e9_11, e9_13, e9_16, e9_17, e9_17r, e9_18, e9_21, e9_22, e9_25, e9_26, e9_27, e9_28, e9_31, e9_32, e9_33, e9_34, e9_35, e9_36, e9_39, e9_42, e9_43, e9_46, e9_47, e9_50, e9_51, e9_52, e9_53, e9_56, e9_59, e9_62, e9_65, e9_66, e9_69, e9_70, e9_73, e9_74, e9_77, e9_78, e9_79, e9_80, e9_81, e9_82, e9_83, e9_84, e9_85, e9_86, e9_89, e9_90, e9_93, e9_94, e9_95, e9_96, e9_97, e9_97r, e9_98, e9_101, e9_102, e9_103, e9_106, e9_107, e9_110, eq_self, kcat_nil, kcat_int, kcat_long, kcat_ref, kNL_int, kNL_ref, kNL_null, Option.toList_some, Option.toList_none, List.nil_append, List.cons_append, Nat.reduceAdd, Nat.reduceLeDiff, Nat.reduceEqDiff, true_and, and_true, true_or, or_true, false_or, or_false, ite_true, ite_false, kd_o ho, mset_ne (show ¬ (o = o ∧ 5 = 13) by omega), e24]
  exact loop n (Nat.le_refl _) _ (by rw [Nat.sub_self]; exact c1) (Off.rfl'.mset (by omega) (by omega))
