/-! the first memory -/
def stF : Nat → Int32 := fun j => if j = 6 then 500 else if j = 7 then 20 else if j = 8 then 2 else if j = 9 then 5 else 0
def M0 : KMem := fun k => if 1 ≤ k ∧ k < 161 ∧ (k - 1) % 20 = 0 then stF else if 1 ≤ k ∧ k < 161 ∧ (k - 1) % 20 = 5 then hi0 else fun _ => 0
def p0 : NR := fun j => if j = 20 then 500 else if j = 21 then 20 else if j = 22 then 2 else if j = 23 then 5 else if 32 ≤ j ∧ j < 49 ∧ j % 2 = 0 then 1000 else 0
def S0 : KS := (p0, 0, fun _ _ => 0, 0, fun _ => 0)
theorem i_S0 : IS S0 0 := by
  refine ⟨⟨by decide +kernel, by decide +kernel, by decide +kernel, by decide +kernel, by decide +kernel, by decide +kernel, by decide +kernel, fun t ht => absurd ht (Nat.not_lt_zero t), by decide +kernel, ?_, by decide +kernel, by decide +kernel, by decide +kernel, by decide +kernel, by decide +kernel, by decide +kernel⟩, fun j hj => absurd hj (Nat.not_lt_zero j), Nat.zero_le 6, Nat.zero_le 80, fun i hi => absurd hi (Nat.not_lt_zero i)⟩
  intro i h1 h2
  have : ∀ i, i < 49 → 31 ≤ i → p0 i ≤ 1000 := by decide +kernel
  exact this i h2 h1
theorem x_S0 : XR S0 M0 := by
  refine ⟨⟨fun i hi ha => ?_, fun t _ h => ?_, ?_⟩, ⟨0, by decide, rfl, fun j hj => absurd hj (Nat.not_lt_zero j)⟩, rfl, Nat.zero_le 6, rfl, Nat.zero_le 80, fun i hi => absurd hi (Nat.not_lt_zero i)⟩
  · have key : ∀ i, i < 137 → (25 ≤ i ∧ i < 31) ∨ M0 (1 + la i) (lb i) = nr p0 i := by decide +kernel
    exact (key i hi).resolve_left ha
  · have e : (nr p0 24).toNatClampNeg = 0 := by decide +kernel
    have h : t < (nr p0 24).toNatClampNeg := h
    rw [e] at h
    exact absurd h (Nat.not_lt_zero t)
  · have key : ∀ t, t < 7 → M0 (1 + 6 + 2 * t) 1 = 0 := by decide +kernel
    exact fun t ht _ => key t ht
theorem j_S0 : JS S0 := ⟨⟨fun t ht => absurd ht (Nat.not_lt_zero _), fun t k ht => absurd ht (Nat.not_lt_zero _)⟩, fun j hj => absurd hj (Nat.not_lt_zero j)⟩
theorem M0_in {o d : Nat} (h : isSt o) (hd : d < 20) : M0 (o + d) = if d = 0 then stF else if d = 5 then hi0 else fun _ => 0 := by
  obtain ⟨i, h1, rfl⟩ := h
  have e : (1 + 20 * i + d - 1) % 20 = d := by omega
  have a : 1 ≤ 1 + 20 * i + d := by omega
  have b : 1 + 20 * i + d < 161 := by omega
  unfold M0
  rw [e]
  simp only [a, b, true_and]
theorem kfs_eq {ad : Nat → Nat} {k c : Nat} (h : kd k = c) (f : Nat → Int32) : kfs ad k f = (List.range (knF c)).map (fun j => if kisR c j = true then Value.ref (ad (rf k j)) else .int (f j)) := by
  unfold kfs
  rw [h]
theorem st_fit {G : KG} {o : Nat} {H : Heap} (ho : isSt o) (hP : va_P (G.2.1, G.2.2.1) vwCl (stA G G.1 o) H) : ∀ d, d < 20 → va_at (G.2.1, G.2.2.1) vwCl (G.1 (o + d), kentr G (o + d) (M0 (o + d))) H := fun d hd => by
  match d, hd with
  | 0, hd =>
    have e := kd_in ho hd
    rw [M0_in ho hd, kentr_obj e (by decide), kfs_eq e]
    simp only [rf_in ho hd]
    exact hP 0 _ rfl
  | 1, hd =>
    have e := kd_in ho hd
    rw [M0_in ho hd, kentr_arr e (by decide) (by decide), ln_in ho hd]
    exact hP 1 _ rfl
  | 2, hd =>
    have e := kd_in ho hd
    rw [M0_in ho hd, kentr_arr e (by decide) (by decide), ln_in ho hd]
    exact hP 2 _ rfl
  | 3, hd =>
    have e := kd_in ho hd
    rw [M0_in ho hd, kentr_ref e (by decide), ln_in ho hd]
    refine eqE.at (Or.inr (Or.inr ⟨_, _, _, _, rfl, rfl, fun j hj => ?_⟩)) (hP 3 _ rfl)
    rw [rf_in ho hd]
    match j, hj with
    | 0, _ => rfl
    | 1, _ => rfl
    | 2, _ => rfl
    | 3, _ => rfl
    | 4, _ => rfl
    | 5, _ => rfl
    | 6, _ => rfl
  | 4, hd =>
    have e := kd_in ho hd
    rw [M0_in ho hd, kentr_arr e (by decide) (by decide), ln_in ho hd]
    exact hP 4 _ rfl
  | 5, hd =>
    have e := kd_in ho hd
    rw [M0_in ho hd, kentr_arr e (by decide) (by decide), ln_in ho hd]
    exact hP 5 _ rfl
  | 6, hd =>
    have e := kd_in ho hd
    rw [M0_in ho hd, kentr_obj e (by decide), kfs_eq e]
    simp only [rf_in ho hd]
    exact hP 6 _ rfl
  | 7, hd =>
    have e := kd_in ho hd
    rw [M0_in ho hd, kentr_arr e (by decide) (by decide), ln_in ho hd]
    exact hP 7 _ rfl
  | 8, hd =>
    have e := kd_in ho hd
    rw [M0_in ho hd, kentr_obj e (by decide), kfs_eq e]
    simp only [rf_in ho hd]
    exact hP 8 _ rfl
  | 9, hd =>
    have e := kd_in ho hd
    rw [M0_in ho hd, kentr_arr e (by decide) (by decide), ln_in ho hd]
    exact hP 9 _ rfl
  | 10, hd =>
    have e := kd_in ho hd
    rw [M0_in ho hd, kentr_obj e (by decide), kfs_eq e]
    simp only [rf_in ho hd]
    exact hP 10 _ rfl
  | 11, hd =>
    have e := kd_in ho hd
    rw [M0_in ho hd, kentr_arr e (by decide) (by decide), ln_in ho hd]
    exact hP 11 _ rfl
  | 12, hd =>
    have e := kd_in ho hd
    rw [M0_in ho hd, kentr_obj e (by decide), kfs_eq e]
    simp only [rf_in ho hd]
    exact hP 12 _ rfl
  | 13, hd =>
    have e := kd_in ho hd
    rw [M0_in ho hd, kentr_arr e (by decide) (by decide), ln_in ho hd]
    exact hP 13 _ rfl
  | 14, hd =>
    have e := kd_in ho hd
    rw [M0_in ho hd, kentr_obj e (by decide), kfs_eq e]
    simp only [rf_in ho hd]
    exact hP 14 _ rfl
  | 15, hd =>
    have e := kd_in ho hd
    rw [M0_in ho hd, kentr_arr e (by decide) (by decide), ln_in ho hd]
    exact hP 15 _ rfl
  | 16, hd =>
    have e := kd_in ho hd
    rw [M0_in ho hd, kentr_obj e (by decide), kfs_eq e]
    simp only [rf_in ho hd]
    exact hP 16 _ rfl
  | 17, hd =>
    have e := kd_in ho hd
    rw [M0_in ho hd, kentr_arr e (by decide) (by decide), ln_in ho hd]
    exact hP 17 _ rfl
  | 18, hd =>
    have e := kd_in ho hd
    rw [M0_in ho hd, kentr_obj e (by decide), kfs_eq e]
    simp only [rf_in ho hd]
    exact hP 18 _ rfl
  | 19, hd =>
    have e := kd_in ho hd
    rw [M0_in ho hd, kentr_arr e (by decide) (by decide), ln_in ho hd]
    exact hP 19 _ rfl
  | d + 20, hd => exact absurd hd (by omega)
theorem bn_st {G : KG} {u : Nat → Nat} {o : Nat} {H : Heap} (hP : va_P (G.2.1, G.2.2.1) vwCl (bnW G u) H) (ho : isSt o) : va_P (G.2.1, G.2.2.1) vwCl (stA G u o) H := by
  obtain ⟨i, hi, rfl⟩ := ho
  unfold bnW at hP
  match i, hi with
  | 0, _ => exact hP.mem (fun z hz => List.mem_cons_of_mem _ (List.mem_append_left _ hz))
  | 1, _ => exact hP.mem (fun z hz => List.mem_cons_of_mem _ (List.mem_append_right _ (List.mem_append_left _ hz)))
  | 2, _ => exact hP.mem (fun z hz => List.mem_cons_of_mem _ (List.mem_append_right _ (List.mem_append_right _ (List.mem_append_left _ hz))))
  | 3, _ => exact hP.mem (fun z hz => List.mem_cons_of_mem _ (List.mem_append_right _ (List.mem_append_right _ (List.mem_append_right _ (List.mem_append_left _ hz)))))
  | 4, _ => exact hP.mem (fun z hz => List.mem_cons_of_mem _ (List.mem_append_right _ (List.mem_append_right _ (List.mem_append_right _ (List.mem_append_right _ (List.mem_append_left _ hz))))))
  | 5, _ => exact hP.mem (fun z hz => List.mem_cons_of_mem _ (List.mem_append_right _ (List.mem_append_right _ (List.mem_append_right _ (List.mem_append_right _ (List.mem_append_right _ (List.mem_append_left _ hz)))))))
  | 6, _ => exact hP.mem (fun z hz => List.mem_cons_of_mem _ (List.mem_append_right _ (List.mem_append_right _ (List.mem_append_right _ (List.mem_append_right _ (List.mem_append_right _ (List.mem_append_right _ (List.mem_append_left _ hz))))))))
  | 7, _ => exact hP.mem (fun z hz => List.mem_cons_of_mem _ (List.mem_append_right _ (List.mem_append_right _ (List.mem_append_right _ (List.mem_append_right _ (List.mem_append_right _ (List.mem_append_right _ (List.mem_append_right _ (List.mem_append_left _ hz)))))))))
theorem bn_tx {G : KG} {u : Nat → Nat} {H : Heap} (hP : va_P (G.2.1, G.2.2.1) vwCl (bnW G u) H) : va_P (G.2.1, G.2.2.1) vwCl ((u 161, .inl (G.2.2.2.1 10, 6, qf (fun j => [some (u 41), some (u 61), some (u 81), some (u 101), some (u 121), some (u 141)].getD j none))) :: txW G (u 162) (u 163, u 164, u 165)) H := by
  unfold bnW at hP
  exact hP.mem (fun z hz => List.mem_cons_of_mem _ (List.mem_append_right _ (List.mem_append_right _ (List.mem_append_right _ (List.mem_append_right _ (List.mem_append_right _ (List.mem_append_right _ (List.mem_append_right _ (List.mem_append_right _ (hz))))))))))
theorem bn_fit {G : KG} {H : Heap} (hP : va_P (G.2.1, G.2.2.1) vwCl (bnW G G.1) H) : kRep G M0 H := by
  intro k q hk
  have hlt : k < 166 := by
    have := (List.getElem?_eq_some_iff.mp hk).1
    simpa [kw] using this
  rw [kw_get hlt] at hk
  cases hk
  have hT := bn_tx hP
  rcases (show k = 0 ∨ (1 ≤ k ∧ k < 161) ∨ k = 161 ∨ k = 162 ∨ k = 163 ∨ k = 164 ∨ k = 165 by omega) with rfl | ⟨h1, h2⟩ | rfl | rfl | rfl | rfl | rfl
  · rw [kentr_obj (c := 3) (by decide) (by decide), kfs_eq (c := 3) (by decide)]
    exact hP 0 _ rfl
  · have ho : isSt (1 + 20 * ((k - 1) / 20)) := ⟨(k - 1) / 20, by omega, rfl⟩
    have h := st_fit ho (bn_st hP ho) ((k - 1) % 20) (by omega)
    rw [show 1 + 20 * ((k - 1) / 20) + (k - 1) % 20 = k by omega] at h
    exact h
  · rw [kentr_ref (c := 10) (by decide) (by decide)]
    refine eqE.at (Or.inr (Or.inr ⟨_, _, _, _, rfl, rfl, fun j hj => ?_⟩)) (hT 0 _ rfl)
    match j, hj with
    | 0, _ => rfl
    | 1, _ => rfl
    | 2, _ => rfl
    | 3, _ => rfl
    | 4, _ => rfl
    | 5, _ => rfl
  · rw [kentr_obj (c := 0) (by decide) (by decide), kfs_eq (c := 0) (by decide)]
    exact hT 1 _ rfl
  · rw [kentr_arr (c := 6) (by decide) (by decide) (by decide)]
    exact hT 2 _ rfl
  · rw [kentr_arr (c := 5) (by decide) (by decide) (by decide)]
    exact hT 3 _ rfl
  · rw [kentr_arr (c := 7) (by decide) (by decide) (by decide)]
    exact hT 4 _ rfl
set_option maxRecDepth 20000 in
theorem kw_fst {G : KG} : (kw G M0).map Prod.fst = (bnW G G.1).map Prod.fst := rfl
theorem bnW_congr {G : KG} {u v : Nat → Nat} (h : ∀ a, a < 166 → u a = v a) : bnW G u = bnW G v := by
  have hs : ∀ o, o + 20 ≤ 166 → stA G u o = stA G v o := fun o ho => stW_congr (fun d hd => h (o + d) (by omega))
  unfold bnW
  rw [hs 1 (by decide), hs 21 (by decide), hs 41 (by decide), hs 61 (by decide), hs 81 (by decide), hs 101 (by decide), hs 121 (by decide), hs 141 (by decide), h 0 (by decide), h 1 (by decide), h 21 (by decide), h 161 (by decide), h 162 (by decide), h 41 (by decide), h 61 (by decide), h 81 (by decide), h 101 (by decide), h 121 (by decide), h 141 (by decide), h 163 (by decide), h 164 (by decide), h 165 (by decide)]
