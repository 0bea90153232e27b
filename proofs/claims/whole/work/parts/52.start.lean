/-! THE LAW, from its entry -/
theorem wmB : Cond.methodLink R_law 9 yX3_init ∈ lw_tbl := List.mem_of_getElem? (i := 39) (by decide +kernel)
theorem wmM : Cond.methodLink R_law 12 yX4_init ∈ lw_tbl := List.mem_of_getElem? (i := 464) (by decide +kernel)
theorem defB : ∀ j, j < 6 → defaultValue (tyX3 j) = vp_V [.null, .null, .null, .null, .int 0, .int 0] j := fun j hj => by
  match j, hj with
  | 0, _ => rfl
  | 1, _ => rfl
  | 2, _ => rfl
  | 3, _ => rfl
  | 4, _ => rfl
  | 5, _ => rfl
theorem defM : ∀ j, j < 8 → defaultValue (tyX4 j) = vp_V [.null, .null, .int 0, .null, .int 0, .null, .null, .int 0] j := fun j hj => by
  match j, hj with
  | 0, _ => rfl
  | 1, _ => rfl
  | 2, _ => rfl
  | 3, _ => rfl
  | 4, _ => rfl
  | 5, _ => rfl
  | 6, _ => rfl
  | 7, _ => rfl
theorem gdB : GoodIn lw_tbl (.code yX3_init cX3_init 2 none :: kgT) := fun w hw => by
  rcases List.mem_cons.mp hw with rfl | hw
  · exact lg_in wcK_3
  · exact lg_in hw
theorem gdM : GoodIn lw_tbl (.code yX4_init cX4_init 2 none :: kgT) := fun w hw => by
  rcases List.mem_cons.mp hw with rfl | hw
  · exact lg_in wcK_4
  · exact lg_in hw
theorem nestIn : ∀ q ∈ knestD, Cond.methodLinkNest q.1 q.2.1 q.2.2.1 q.2.2.2 ∈ lw_tbl := by
  intro q hq
  unfold knestD at hq
  simp only [List.mem_cons, List.not_mem_nil, or_false] at hq
  rcases hq with rfl | rfl | rfl | rfl | rfl | rfl | rfl | rfl | rfl
  · exact List.mem_of_getElem? (i := 282) (by decide +kernel)
  · exact List.mem_of_getElem? (i := 202) (by decide +kernel)
  · exact List.mem_of_getElem? (i := 343) (by decide +kernel)
  · exact List.mem_of_getElem? (i := 366) (by decide +kernel)
  · exact List.mem_of_getElem? (i := 415) (by decide +kernel)
  · exact List.mem_of_getElem? (i := 436) (by decide +kernel)
  · exact List.mem_of_getElem? (i := 215) (by decide +kernel)
  · exact List.mem_of_getElem? (i := 308) (by decide +kernel)
  · exact List.mem_of_getElem? (i := 348) (by decide +kernel)
theorem nestT : Cond.methodLinkNest RX1 43 yX2_init RX3 ∈ lw_tbl := List.mem_of_getElem? (i := 54) (by decide +kernel)
theorem nestX : Cond.methodLinkNest RX3 25 yX0_init RX3 ∈ lw_tbl := List.mem_of_getElem? (i := 140) (by decide +kernel)
/-- the classes, as the tables have them -/
theorem k2K_of {b : Nat} {s : State} (hts : ∀ w ∈ lw_tbl, w.before #[Value.ref b] s = true) (ad : Nat → Nat) (A : Nat → Prop) : ∃ (gc : Nat → ClassId) (gs : Nat → Nat → Nat) (ga : Nat → ClassId), k2K (ad, gc, gs, ga, A) s := by
  have htk : ∀ w ∈ kgT, w.before #[Value.ref b] s = true := fun w hw => hts w (lg_in hw).1
  obtain ⟨c0, i0, h0⟩ := u_known (C := RX0) (T := TX0) (N := 5) (n := 5) htk hin0 (htk _ wcN_0)
  obtain ⟨c1, i1, h1⟩ := u_known (C := RX1) (T := TX1) (N := 14) (n := 14) htk hin1 (htk _ wcN_1)
  obtain ⟨c2, i2, h2⟩ := u_known (C := RX2) (T := TX2) (N := 4) (n := 4) htk hin2 (htk _ wcN_2)
  obtain ⟨c3, i3, h3⟩ := u_known (C := RX3) (T := TX3) (N := 6) (n := 6) htk hin3 (htk _ wcN_3)
  obtain ⟨c4, i4, h4⟩ := u_known (C := RX4) (T := TX4) (N := 8) (n := 8) htk hin4 (htk _ wcN_4)
  obtain ⟨a5, h5⟩ := arr_int (htk _ wcA_int)
  obtain ⟨a6, h6⟩ := arr_char (htk _ wcA_char)
  obtain ⟨a7, h7⟩ := arr_boolean (htk _ wcA_boolean)
  obtain ⟨a8, h8⟩ := arr_byte (htk _ wcA_byte)
  obtain ⟨a9, h9⟩ := arr_obj (hts _ wcV_2)
  obtain ⟨a10, h10⟩ := arr_obj (hts _ wcV_1)
  refine ⟨fun k => [c0, c1, c2, c3, c4].getD k c0, fun k => [i0, i1, i2, i3, i4].getD k i0, fun k => [a5, a6, a7, a8, a9, a10].getD (k - 5) a5, ⟨⟨fun c q hq => ?_, fun k q hk => ?_⟩, fun q hq => va_Nw.of rfl (hts _ (nestIn q hq))⟩, va_Nw.of rfl (hts _ nestT), va_Nw.of rfl (hts _ nestX), va_AO.of (hts _ wcV_1), va_AO.of (hts _ wcV_2)⟩
  · match c, hq with
    | 0, hq => cases hq; exact h0
    | 1, hq => cases hq; exact h1
    | 2, hq => cases hq; exact h2
    | 3, hq => cases hq; exact h3
    | 4, hq => cases hq; exact h4
    | c + 5, hq => simp [vwCl] at hq
  · match k, hk with
    | 0, hk => cases hk; exact h5
    | 1, hk => cases hk; exact h6
    | 2, hk => cases hk; exact h7
    | 3, hk => cases hk; exact h8
    | 4, hk => cases hk; exact h9
    | 5, hk => cases hk; exact h10
    | k + 6, hk => simp [ktys] at hk
/-- the two objects made: the small machine's first memory -/
theorem first_world {gc : Nat → ClassId} {gs : Nat → Nat → Nat} {ga : Nat → ClassId} {A : Nat → Prop} {x : Nat → Nat} {u v : Nat → Nat} {H : Heap} (hP : va_P (gc, gs) vwCl (bnW (x, gc, gs, ga, A) u ++ mdW (x, gc, gs, ga, A) v) H) (hD : va_D A (bnW (x, gc, gs, ga, A) u ++ mdW (x, gc, gs, ga, A) v)) :
    ∃ ad : Nat → Nat, ad 0 = u 0 ∧ ad 166 = v 0 ∧ kRep (ad, gc, gs, ga, A) M0 H ∧ kOK (ad, gc, gs, ga, A) := by
  obtain ⟨ad, had⟩ : ∃ ad : Nat → Nat, ad = fun a => if a < 166 then u a else v (a - 166) := ⟨_, rfl⟩
  have e1 : ∀ a, a < 166 → u a = ad a := fun a ha => by
    rw [had]
    exact (if_pos ha).symm
  have e2 : ∀ a, a < 6 → v a = ad (166 + a) := fun a ha => by
    rw [had]
    dsimp only
    rw [if_neg (by omega), show 166 + a - 166 = a by omega]
  have hb : bnW (x, gc, gs, ga, A) u = bnW (ad, gc, gs, ga, A) ad := bnW_congr (G := (ad, gc, gs, ga, A)) e1
  have hm : mdW (x, gc, gs, ga, A) v = mdW (ad, gc, gs, ga, A) (fun d => ad (166 + d)) := mdW_congr (G := (ad, gc, gs, ga, A)) (v := fun d => ad (166 + d)) e2
  rw [hb, hm] at hP hD
  have hR : kRep (ad, gc, gs, ga, A) M0 H := bn_fit (G := (ad, gc, gs, ga, A)) (hP.mem (fun z hz => List.mem_append_left _ hz)) (hP.mem (fun z hz => List.mem_append_right _ hz))
  have hD2 : va_D A (kw (ad, gc, gs, ga, A) M0) := hD.fst kw_fst
  exact ⟨ad, (e1 0 (by decide)).symm, (e2 0 (by decide)).symm, hR, fun i j hi hj e => hD2.1 i j _ _ (kw_get hi) (kw_get hj) e, fun k hk => hD2.2 k _ (kw_get hk)⟩
set_option maxHeartbeats 4000000 in
/-- YOUR PART: from the entry, for every script of at most 2560 ints, the law comes to its end with true ('hflags': the launch's flags, for a law that throws: no stack traces) -/
theorem whole_start {p : Program} {e : Env} {s : State} {m : MethodId} {below : List Frame} {meth : Method} {c : Code} (l : Launch) (hflags : l.flags = flags0) {b L : Nat} {xs : Nat → Int32} (hL : L ≤ 2560) (C0 : lw_At p s m meth c b L xs) : W p l e room_1 s m #[Value.ref b] below meth c s.heap [] 0 0 (lw_Z below #[Value.ref b] s) (entryFrame m ([Value.ref b] : List Value).toArray 4) := by
  obtain ⟨hx, hb, hr, hml, hown, hts, hX, hbl, hlocks, hgv⟩ := id C0
  obtain ⟨A, hAe⟩ : ∃ A : Nat → Prop, A = fun q : Nat => s.heap.size ≤ q := ⟨_, rfl⟩
  have hA : ∀ q : Nat, s.heap.size ≤ q → A q := fun q h => by rw [hAe]; exact h
  have hbA : ¬ A b := by rw [hAe]; exact Nat.not_le.mpr hbl
  have htk : ∀ w ∈ kgT, w.before #[Value.ref b] s = true := fun w hw => hts w (lg_in hw).1
  obtain ⟨gc, gs, ga, hKK⟩ := k2K_of hts (fun _ => 0) A
  have hS : va_S A s.heap s.heap [] := va_S.rf
  have hP : va_P (gc, gs) vwCl [] s.heap := fun k q h => by simp at h
  have hD : va_D A [] := ⟨fun i j p q h => by simp at h, fun k q h => by simp at h⟩
  have cf : CallFix p m c code 4 s #[Value.ref b] lw_tbl R_law := ⟨hx, hb, hml, hown, hts⟩
  have hl := lv_entry ([.ref b]) (n := 4) (Nat.le_of_ble_eq_true rfl)
  rw [lg_entry_eq]
  generalize (lg_sl ([.ref b]) ++ List.replicate (4 - (lg_sl ([.ref b])).length) Slot.unset).toArray = ls at hl ⊢
  have hl : lv_has ls 4 [(0, .ref b)] := hl
  refine mk_go (D := (gc, gs)) (ty := tyX3) (post := fun q u => u 0 = q) (w := fun (_ : Nat) (u : Nat → Nat) => bnW ((fun _ => 0), gc, gs, ga, A) u) (KK := k2K ((fun _ => 0), gc, gs, ga, A)) (ci := 3) (fs := [.null, .null, .null, .null, .int 0, .int 0]) (mc := 165) (ms := 1383) cf (fun w hw => (lg_in (hin3 w hw)).1) tyX3_ok (htk _ wcC_L_3) (htk _ wcN_3) (htk _ wI_3) hKK.1.1 hP hD hS hA rfl defB (fun a U g mk h => h.blind a U g mk) (fun U hW => hKK.warm hW) dL_law_0 dL_law_3 ⟨Nat.le_of_ble_eq_true rfl, Nat.le_of_ble_eq_true rfl⟩
    (fun q H1 hp => va_runI (As := []) (rest := [.ref q]) cf (c_X3_init l ((fun _ => 0), gc, gs, ga, A) q H1.size) (cwI (mc := 165) (ms := 1383) 0 hts gdB rfl rfl rfl (htk _ wI_3) (hts _ wmB) (htk _ wcI_3) rfl ⟨by decide, by decide, by decide +kernel⟩ ⟨Nat.le_of_ble_eq_true rfl, Nat.le_of_ble_eq_true rfl⟩) hp rfl rfl hl.1 rfl (lv_room (Nat.le_of_ble_eq_true rfl)) dL_law_4 ⟨Nat.le_of_ble_eq_true rfl, Nat.le_of_ble_eq_true rfl⟩) (fun q1 u H locs hu hP hD hS => ?_)
  refine lv_astore_n (lv' := [(1, .ref q1), (0, .ref b)]) hx hb dL_law_7 rfl hl (by decide) rfl (fun ls hl => ?_)
  refine mk_go (D := (gc, gs)) (ty := tyX4) (post := fun q u => u 0 = q) (w := fun (_ : Nat) (u : Nat → Nat) => mdW ((fun _ => 0), gc, gs, ga, A) u) (KK := kK ((fun _ => 0), gc, gs, ga, A)) (ci := 4) (fs := [.null, .null, .int 0, .null, .int 0, .null, .null, .int 0]) (mc := 5) (ms := 1186) cf (fun w hw => (lg_in (hin4 w hw)).1) tyX4_ok (htk _ wcC_L_4) (htk _ wcN_4) (htk _ wI_4) hKK.1.1 hP hD hS hA rfl defM (fun a U g mk h => h.blind a U g mk) (fun U hW => hKK.1.warm hW) dL_law_8 dL_law_11 ⟨Nat.le_of_ble_eq_true rfl, Nat.le_of_ble_eq_true rfl⟩
    (fun q H1 hp => va_runI (As := []) (rest := [.ref q]) cf (c_X4_init l ((fun _ => 0), gc, gs, ga, A) q H1.size) (cwI (mc := 5) (ms := 1186) 0 hts gdM rfl rfl rfl (htk _ wI_4) (hts _ wmM) (htk _ wcI_4) rfl ⟨by decide, by decide, by decide +kernel⟩ ⟨Nat.le_of_ble_eq_true rfl, Nat.le_of_ble_eq_true rfl⟩) hp rfl rfl hl.1 rfl (lv_room (Nat.le_of_ble_eq_true rfl)) dL_law_12 ⟨Nat.le_of_ble_eq_true rfl, Nat.le_of_ble_eq_true rfl⟩) (fun q2 v H locs hv hP hD hS => ?_)
  refine lv_astore_n (lv' := [(2, .ref q2), (1, .ref q1), (0, .ref b)]) hx hb dL_law_15 rfl hl (by decide) rfl (fun ls hl => ?_)
  refine lv_iconst (v := 0) hx hb dL_law_16 (by decide) ?_
  refine lv_istore_n (lv' := [(3, .int 0), (2, .ref q2), (1, .ref q1), (0, .ref b)]) hx hb dL_law_17 rfl hl (by decide) rfl (fun ls hl => ?_)
  obtain ⟨ad, e0, e166, hR, hOK⟩ := first_world (x := fun _ => 0) hP hD
  rw [hu] at e0
  rw [hv] at e166
  have cx : lCx (ad, gc, gs, ga, A) p s m meth c b := ⟨hx, hb, hml, hr, hown, hts, hlocks, hKK.1⟩
  have hls := lv_sub (l' := [(0, .ref b), (1, .ref q1), (2, .ref q2), (3, .int 0)]) hl [3, 2, 1, 0] rfl
  refine law_loop (G := (ad, gc, gs, ga, A)) cx hOK hX hbl hbA hL ⟨Nat.le_of_ble_eq_true rfl, Nat.le_of_ble_eq_true rfl⟩ (fun H locs la hS => ?_) (L + 5) 0 0 (by omega) rfl (Nat.zero_le L) ls H locs S0 ?_ hS ⟨M0, hR, x_S0, y_S0⟩ i_S0
  · refine lv_iconst (v := 1) hx hb dL_law_837 (by decide) ?_
    refine va_forget (fun q hq => ?_) ?_
    · have := hS.2.2 q hq
      rw [hAe] at this
      exact this
    refine W.widen (k := 600000) (n := 7302250) (Nat.le_of_ble_eq_true rfl) (Nat.le_of_ble_eq_true rfl) ?_
    exact lw_ret hx hb hr hlocks dL_law_838
  · show lv_has ls 4 [(0, .ref b), (1, .ref (ad 0)), (2, .ref (ad 166)), (3, .int (nI 0))]
    rw [e0, e166]
    exact hls
