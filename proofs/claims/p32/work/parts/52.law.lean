/-! the law's reading of the script -/
def Fy (M M' : KMem) : Prop := ∀ c, c < 166 → M' c = M c
theorem XR.moved {S : KS} {M M' : KMem} (h : XR S M) (h' : Fy M M') : XR S M' := by
  obtain ⟨h1, ⟨q, h2, h3, h4⟩, h5, h6, h7, h8, h9⟩ := h
  refine ⟨h1.off (fun c _ hc => h' c (by omega)), ⟨q, h2, by rw [h' 0 (by decide)]; exact h3, fun j hj => (h4 j hj).off (fun c _ hc => h' c (by omega))⟩, by rw [h' 0 (by decide)]; exact h5, h6, by rw [h' 162 (by decide)]; exact h7, h8, fun i hi => by rw [h' 163 (by decide)]; exact h9 i hi⟩
def cellP (G : KG) (M : KMem) (b L : Nat) (xs : Nat → Int32) (k : Nat) : Array Value → State → Prop := va_Pc [.ref b, .int (nI k)] (fun U => kRep G M U.heap ∧ va_X b L xs U U.heap ∧ b < U.heap.size)
theorem cellP_blind {G : KG} {M : KMem} {b L k : Nat} {xs : Nat → Int32} : FrameBlind (cellP G M b L xs k) := fun a U g mk q => by
  obtain ⟨h1, h2, h3, h4⟩ := q
  exact ⟨h1, h2, va_X.moved (u := U) (U := U.calling g mk a) (Vm.Alike.refl U.vm) h3, h4⟩
theorem c_cell (l : Launch) (G : KG) (M : KMem) {b L k : Nat} {xs : Nat → Int32} (hbA : ¬ G.2.2.2.2 b) (hk : k < 36) (hL : L ≤ 260) : Met l yL_cell [.code yL_cell cL_cell 2 (some .int)] ({ frames := 0, cells := 0, slots := 0, locals := 0 }) (cellP G M b L xs k) (va_Qi (fun (_ : Int32) (_ : Unit) => True) (fun _ t => kRep G M t.heap) G.2.2.2.2) 0 0 G.2.2.2.2 := by
  refine Met.ofW (cc := cL_cell) (maxL := 2) (ret := some .int) (by decide) rfl ?_
  intro p e s m args below meth c s₁ B hml hv
  obtain ⟨rfl, hR, hX, hbl⟩ := hv
  have hx := B.exec
  have hb := B.bytes
  have hr := B.returns
  have hlocks := B.notSynchronized
  have hS : va_S G.2.2.2.2 s.heap s.heap [] := va_S.rf
  have hl := lv_entry ([.ref b, .int (nI k)]) (n := 2) (Nat.le_of_ble_eq_true rfl)
  rw [lg_entry_eq]
  generalize (lg_sl ([.ref b, .int (nI k)]) ++ List.replicate (2 - (lg_sl ([.ref b, .int (nI k)])).length) Slot.unset).toArray = ls at hl ⊢
  have hl : lv_has ls 2 [(0, .ref b), (1, .int (nI k))] := hl
  refine lv_iload_n hx hb dL_cell_0 rfl (lv_at hl 1 rfl) ?_
  refine lv_aload_n hx hb dL_cell_1 rfl (lv_at hl 0 rfl) ?_
  refine va_slen hx hb hX hbl hbA hS dL_cell_2 ?_
  refine lv_icmp_ge (tgt := 12) hx hb dL_cell_3 (by decide) (fun c1 => ?_) (fun c1 => ?_)
  · refine lv_sipush (v := 7919) hx hb dL_cell_12 (by decide) ?_
    refine lv_iload_n hx hb dL_cell_15 rfl (lv_at hl 1 rfl) ?_
    refine lv_iconst (v := 3) hx hb dL_cell_16 (by decide) ?_
    refine lv_iadd hx hb dL_cell_17 ?_
    refine lv_imul hx hb dL_cell_18 ?_
    refine lv_iload_n hx hb dL_cell_19 rfl (lv_at hl 1 rfl) ?_
    refine lv_bipush (v := 11) hx hb dL_cell_20 (by decide) ?_
    refine lv_iadd hx hb dL_cell_22 ?_
    refine lv_imul hx hb dL_cell_23 ?_
    exact W.iret hx hb hr (fun t ht hW => ⟨⟨_, (), rfl, trivial, by show kRep G M t.heap; rw [ht]; exact hR⟩, hS.F ht⟩) hS.2.2 dL_cell_24 hlocks
  · have hkL : k < L := by
      rcases Nat.lt_or_ge k L with q | q
      · exact q
      · exact absurd (nI_le q (by omega)) c1
    refine lv_aload_n hx hb dL_cell_6 rfl (lv_at hl 0 rfl) ?_
    refine lv_iload_n hx hb dL_cell_7 rfl (lv_at hl 1 rfl) ?_
    refine va_sld hx hb hX hbl hbA hS (vp_in_nI hkL (by omega)) dL_cell_8 ?_
    refine lv_goto (tgt := 24) hx hb dL_cell_9 (by decide) ?_
    exact W.iret hx hb hr (fun t ht hW => ⟨⟨_, (), rfl, trivial, by show kRep G M t.heap; rw [ht]; exact hR⟩, hS.F ht⟩) hS.2.2 dL_cell_24 hlocks
/-! the law's loop -/
theorem kL_of {G : KG} {b : Nat} {a e : Int32} {la : Array Slot} (h6 : G.1 166 = b) (hl : lv_has la 14 [(0, .ref b), (1, .ref (G.1 0)), (2, .int a), (3, .int e)]) : kL G (kml klaw) [.ref 166, .ref 0, .int a, .int e, .null, .null, .null, .null, .null, .null, .null, .null, .null, .null] la := by
  refine ⟨rfl, hl.1, hl.2.1, fun j v hj hv => ?_⟩
  have get : ∀ q : Nat × Value, q ∈ [((0 : Nat), Value.ref b), (1, .ref (G.1 0)), (2, .int a), (3, .int e)] → la[q.1]? = some (.val q.2) := hl.2.2
  match j, hj with
  | 0, hj => cases hj; show la[0]? = some (.val (.ref (G.1 166))); rw [h6]; exact get (0, .ref b) (by simp)
  | 1, hj => cases hj; exact get (1, .ref (G.1 0)) (by simp)
  | 2, hj => cases hj; exact get (2, .int a) (by simp)
  | 3, hj => cases hj; exact get (3, .int e) (by simp)
  | 4, hj => cases hj; exact absurd rfl hv
  | 5, hj => cases hj; exact absurd rfl hv
  | 6, hj => cases hj; exact absurd rfl hv
  | 7, hj => cases hj; exact absurd rfl hv
  | 8, hj => cases hj; exact absurd rfl hv
  | 9, hj => cases hj; exact absurd rfl hv
  | 10, hj => cases hj; exact absurd rfl hv
  | 11, hj => cases hj; exact absurd rfl hv
  | 12, hj => cases hj; exact absurd rfl hv
  | 13, hj => cases hj; exact absurd rfl hv
  | j + 14, hj => cases hj
theorem kL_of4 {G : KG} {b : Nat} {a e v : Int32} {la : Array Slot} (h6 : G.1 166 = b) (hl : lv_has la 14 [(4, .int v), (0, .ref b), (1, .ref (G.1 0)), (2, .int a), (3, .int e)]) : kL G (kml klaw) [.ref 166, .ref 0, .int a, .int e, .int v, .null, .null, .null, .null, .null, .null, .null, .null, .null] la := by
  refine ⟨rfl, hl.1, hl.2.1, fun j w hj hv => ?_⟩
  have get : ∀ q : Nat × Value, q ∈ [((4 : Nat), Value.int v), (0, Value.ref b), (1, .ref (G.1 0)), (2, .int a), (3, .int e)] → la[q.1]? = some (.val q.2) := hl.2.2
  match j, hj with
  | 0, hj => cases hj; show la[0]? = some (.val (.ref (G.1 166))); rw [h6]; exact get (0, .ref b) (by simp)
  | 1, hj => cases hj; exact get (1, .ref (G.1 0)) (by simp)
  | 2, hj => cases hj; exact get (2, .int a) (by simp)
  | 3, hj => cases hj; exact get (3, .int e) (by simp)
  | 4, hj => cases hj; exact get (4, .int v) (by simp)
  | 5, hj => cases hj; exact absurd rfl hv
  | 6, hj => cases hj; exact absurd rfl hv
  | 7, hj => cases hj; exact absurd rfl hv
  | 8, hj => cases hj; exact absurd rfl hv
  | 9, hj => cases hj; exact absurd rfl hv
  | 10, hj => cases hj; exact absurd rfl hv
  | 11, hj => cases hj; exact absurd rfl hv
  | 12, hj => cases hj; exact absurd rfl hv
  | 13, hj => cases hj; exact absurd rfl hv
  | j + 14, hj => cases hj
theorem lv_ofkL {G : KG} {b : Nat} {a e : Int32} {ls : List Value} {la : Array Slot} (h6 : G.1 166 = b) (h : kL G (kml klaw) (.ref 166 :: .ref 0 :: .int a :: .int e :: ls) la) : lv_has la 14 [(0, .ref b), (1, .ref (G.1 0)), (2, .int a), (3, .int e)] := by
  refine ⟨h.2.1, h.2.2.1, fun q hq => ?_⟩
  simp only [List.mem_cons, List.not_mem_nil, or_false] at hq
  rcases hq with rfl | rfl | rfl | rfl
  · have := h.2.2.2 0 _ rfl (by intro z; cases z)
    rw [← h6]
    exact this
  · exact h.2.2.2 1 _ rfl (by intro z; cases z)
  · exact h.2.2.2 2 _ rfl (by intro z; cases z)
  · exact h.2.2.2 3 _ rfl (by intro z; cases z)
theorem gdC : GoodIn kgT (wsS RL 80 yL_cell [.code yL_cell cL_cell 2 (some .int)]) := by
  intro w hw
  unfold wsS at hw
  rcases List.mem_append.mp hw with h | h
  · simp only [List.mem_cons, List.not_mem_nil, or_false] at h
    rcases h with rfl | rfl | rfl
    · exact kg_good wlM_cell
    · exact kg_good wlS_cell
    · exact kg_good wlI_law
  · simp only [List.mem_cons, List.not_mem_nil, or_false] at h
    rw [h]
    exact kg_good wlC_cell
theorem lit36 : ∀ i, i ≤ 36 → ((36 : Int32) ≤ nI i ↔ i = 36) := by decide +kernel
section LAW
variable {l : Launch} {G : KG} {p : Program} {e : Env} {s : State} {mid : MethodId} {below : List Frame} {meth : Method} {cd : Code} {Q : State → Prop} {b L kc ks : Nat} {xs : Nat → Int32}
theorem law_loop (cx : kCx G klaw p s mid meth cd #[Value.ref b]) (hG : kOK G) (h166 : G.1 166 = b) (hX : va_X b L xs s s.heap) (hbl : b < s.heap.size) (hbA : ¬ G.2.2.2.2 b) (hL : L ≤ 260) (hkc : kc ≤ kcl klaw) (hks : ks ≤ ksl klaw)
    (fin : ∀ (H : Heap) (locs : List Loc) (la : Array Slot), va_S G.2.2.2.2 s.heap H locs → W p l e (krm klaw) s mid #[Value.ref b] below meth cd H locs kc ks Q (F0 mid 440 la [.int 1])) :
    ∀ n i : Nat, i + n = 36 → ∀ (la : Array Slot) (H : Heap) (locs : List Loc) (S : KS) (M : KMem), lv_has la 14 [(0, .ref b), (1, .ref (G.1 0)), (2, .int (nI S.2.1)), (3, .int (nI i))] → va_S G.2.2.2.2 s.heap H locs → kRep G M H → XR S M → IS S (2 * i) → JS S → W p l e (krm klaw) s mid #[Value.ref b] below meth cd H locs kc ks Q (F0 mid 12 la []) := by
  have hx := cx.1
  have hb : cd.code = code := cx.2.1
  intro n
  induction n with
  | zero =>
    intro i hi la H locs S M hla hS hR hXR hI hJ
    have : i = 36 := by omega
    subst this
    refine lv_iload_n hx hb dL_law_12 rfl (lv_at hla 3 rfl) ?_
    refine lv_bipush (v := 36) hx hb dL_law_13 (by decide) ?_
    refine lv_icmp_ge (tgt := 416) hx hb dL_law_15 (by decide) (fun _ => ?_) (fun c => absurd ((lit36 36 (Nat.le_refl _)).mpr rfl) c)
    obtain ⟨f, o, h1, h2⟩ := b_416 (e := nI 36) (l4 := .null) (l5 := .null) (l6 := .null) (l7 := .null) (l8 := .null) (l9 := .null) (l10 := .null) (l11 := .null) (l12 := .null) (l13 := .null) (Q := fun r _ => r = some (.int 1)) hI hXR (fun _ => rfl)
    exact klawrun hG ok_all ok_law ok_own cx hkc hks (fun M1 ls1 a1 b1 eo => by rw [eo] at h2; cases h2) (fun M1 _ H1 locs1 la1 hS1 => fin H1 locs1 la1 hS1) f 416 _ [] M h1 H locs la hR hS (kL_of h166 hla)
  | succ n ih =>
    intro i hi la H locs S M hla hS hR hXR hI hJ
    refine lv_iload_n hx hb dL_law_12 rfl (lv_at hla 3 rfl) ?_
    refine lv_bipush (v := 36) hx hb dL_law_13 (by decide) ?_
    refine lv_icmp_ge (tgt := 416) hx hb dL_law_15 (by decide) (fun c => absurd ((lit36 i (by omega)).mp c) (by omega)) (fun _ => ?_)
    refine lv_aload_n hx hb dL_law_18 rfl (lv_at hla 0 rfl) ?_
    refine lv_iload_n hx hb dL_law_19 rfl (lv_at hla 3 rfl) ?_
    refine va_calli (va_runS (R := krm klaw) (e := e) (meth := meth) (below := below) (cells := kc) (slots := ks) (locs := locs) (As := [.ref b, .int (nI i)]) (kfix cx) (c_cell l G M (b := b) (L := L) (k := i) (xs := xs) hbA (by omega) hL) (cwS (rm := { frames := 0, cells := 0, slots := 0, locals := 0 }) (mc := 0) (ms := 0) 2 cx.2.2.2.2.2.1 gdC rfl rfl rfl ⟨rfl, by decide, by decide, by decide +kernel⟩ ⟨by decide, by decide⟩) ⟨cellP_blind, fun U hU hW => ⟨rfl, by rw [hU]; exact hR, by rw [hU]; exact va_X.moved hW.alike (hX.kept (hS.2.1 b hbl hbA)), by rw [hU]; exact Nat.lt_of_lt_of_le hbl hS.1⟩⟩ rfl rfl hla.1 (g := F0 mid 20 la [.int (nI i), .ref b]) (rest := []) rfl (lv_room (Nat.le_of_ble_eq_true rfl)) dL_law_20 ⟨hkc, hks⟩) hS (fun q _ h => h) (fun q h => h) (fun r u t H1 locs1 ht _ _ hB _ _ hS1 => ?_)
    have hR1 : kRep G M H1 := by
      have hB : kRep G M t.heap := hB
      rw [ht] at hB
      exact hB
    refine lv_istore (lv' := [(4, .int r), (0, .ref b), (1, .ref (G.1 0)), (2, .int (nI S.2.1)), (3, .int (nI i))]) hx hb dL_law_23 hla (by decide) rfl (fun la1 hla1 => ?_)
    obtain ⟨f, o, h1, h2⟩ := b_25 (e := nI i) (v := r) (Q := fun r' M' => r' = none ∧ ∃ (S' : KS) (M2 : KMem), IS S' (2 * i + 2) ∧ JS S' ∧ XR S' M2 ∧ M' = mset (mset M2 200 0 (nI S'.2.1)) 200 1 (nI i)) (by omega) hI hJ hXR (fun S' M2 i2 j2 x2 => ⟨rfl, S', M2, i2, j2, x2, rfl⟩)
    refine klawrun hG ok_all ok_law ok_own cx hkc hks (fun M1 ls1 a1 b1 eo H2 locs2 la2 hR2 hS2 hL2 => ?_) (fun M1 eo => by rw [eo] at h2; cases h2.1) f 25 _ [] M h1 H1 locs1 la1 hR1 hS1 (kL_of4 h166 hla1)
    obtain ⟨_, S', M2, i2, j2, x2, em⟩ := h2
    rw [eo] at em
    have em : mset (mset M1 200 0 a1) 200 1 b1 = mset (mset M2 200 0 (nI S'.2.1)) 200 1 (nI i) := em
    have ea : a1 = nI S'.2.1 := by
      have := congrFun (congrFun em 200) 0
      rw [mset_ne (by omega), mset_eq, mset_ne (by omega), mset_eq] at this
      exact this
    have eb : b1 = nI i := by
      have := congrFun (congrFun em 200) 1
      rw [mset_eq, mset_eq] at this
      exact this
    have ec : ∀ c, c < 166 → M1 c = M2 c := fun c hc => by
      have := congrFun em c
      rw [mset_off (by omega), mset_off (by omega), mset_off (by omega), mset_off (by omega)] at this
      exact this
    subst ea eb
    have hla2 := lv_ofkL h166 hL2
    refine lv_iinc (v := nI (i + 1)) (lv' := [(3, .int (nI (i + 1))), (0, .ref b), (1, .ref (G.1 0)), (2, .int (nI S'.2.1))]) hx hb dL_law_410 hla2 (k := 3) rfl (by rw [← nI_add]; rfl) (by decide) rfl (fun la3 hla3 => ?_)
    refine lv_goto (tgt := 12) hx hb dL_law_413 (by decide) ?_
    exact ih (i + 1) (by omega) la3 H2 locs2 S' M1 (lv_sub hla3 [1, 2, 3, 0] rfl) hS2 hR2 (x2.moved ec) (by rw [show 2 * (i + 1) = 2 * i + 2 from by omega]; exact i2) j2
end LAW
/-! THE LAW, from its entry -/
theorem lg_in {w : Cond} (h : w ∈ kgT) : w ∈ lw_tbl ∧ ((w.onTables && w.keeps) = true ∨ ∃ ty, w = .arrayClass ty) := ⟨(List.mem_filter.mp h).1, good_of_word (List.mem_filter.mp h).2⟩
theorem defB : ∀ j, j < 6 → defaultValue (tyX3 j) = vp_V [.null, .null, .null, .null, .int 0, .int 0] j := fun j hj => by
  match j, hj with
  | 0, _ => rfl
  | 1, _ => rfl
  | 2, _ => rfl
  | 3, _ => rfl
  | 4, _ => rfl
  | 5, _ => rfl
theorem gdB : GoodIn lw_tbl (.code yX3_init cX3_init 2 none :: kgT) := fun w hw => by
  rcases List.mem_cons.mp hw with rfl | hw
  · exact lg_in wcK_3
  · exact lg_in hw
/-- the classes, as the tables have them -/
theorem k2K_of {b : Nat} {s : State} (hts : ∀ w ∈ lw_tbl, w.before #[Value.ref b] s = true) (ad : Nat → Nat) (A : Nat → Prop) : ∃ (gc : Nat → ClassId) (gs : Nat → Nat → Nat) (ga : Nat → ClassId), ∀ ad, k2K (ad, gc, gs, ga, A) s := by
  have htk : ∀ w ∈ kgT, w.before #[Value.ref b] s = true := fun w hw => hts w (lg_in hw).1
  obtain ⟨c0, i0, h0⟩ := u_known (C := RX0) (T := TX0) (N := 5) (n := 5) htk hin0 (htk _ wcN_0)
  obtain ⟨c1, i1, h1⟩ := u_known (C := RX1) (T := TX1) (N := 14) (n := 14) htk hin1 (htk _ wcN_1)
  obtain ⟨c2, i2, h2⟩ := u_known (C := RX2) (T := TX2) (N := 4) (n := 4) htk hin2 (htk _ wcN_2)
  obtain ⟨c3, i3, h3⟩ := u_known (C := RX3) (T := TX3) (N := 6) (n := 6) htk hin3 (htk _ wcN_3)
  obtain ⟨a5, h5⟩ := arr_int (htk _ wcA_int)
  obtain ⟨a6, h6⟩ := arr_char (htk _ wcA_char)
  obtain ⟨a7, h7⟩ := arr_boolean (htk _ wcA_boolean)
  obtain ⟨a9, h9⟩ := arr_obj (hts _ wcV_2)
  obtain ⟨a10, h10⟩ := arr_obj (hts _ wcV_1)
  refine ⟨fun k => [c0, c1, c2, c3].getD k c0, fun k => [i0, i1, i2, i3].getD k i0, fun k => [a5, a6, a7, a5, a9, a10].getD (k - 5) a5, fun ad => ⟨⟨⟨fun c q hq => ?_, fun k q hk => ?_⟩, fun q hq => va_Nw.of rfl (hts _ (nestIn q hq))⟩, va_Nw.of rfl (hts _ nestT), va_Nw.of rfl (hts _ nestX), va_AO.of (hts _ wcV_1), va_AO.of (hts _ wcV_2)⟩⟩
  · match c, hq with
    | 0, hq => cases hq; exact h0
    | 1, hq => cases hq; exact h1
    | 2, hq => cases hq; exact h2
    | 3, hq => cases hq; exact h3
    | c + 4, hq => simp [vwCl] at hq
  · match k, hk with
    | 0, hk => cases hk; exact h5
    | 1, hk => cases hk; exact h6
    | 2, hk => cases hk; exact h7
    | 3, hk => cases hk; exact h9
    | 4, hk => cases hk; exact h10
    | k + 5, hk => simp [ktys] at hk
/-- the bench made: the small machine's first memory -/
theorem first_world {gc : Nat → ClassId} {gs : Nat → Nat → Nat} {ga : Nat → ClassId} {A : Nat → Prop} {x : Nat → Nat} {u : Nat → Nat} {H : Heap} (b : Nat) (hP : va_P (gc, gs) vwCl (bnW (x, gc, gs, ga, A) u) H) (hD : va_D A (bnW (x, gc, gs, ga, A) u)) :
    ∃ ad : Nat → Nat, ad 0 = u 0 ∧ ad 166 = b ∧ kRep (ad, gc, gs, ga, A) M0 H ∧ kOK (ad, gc, gs, ga, A) := by
  obtain ⟨ad, had⟩ : ∃ ad : Nat → Nat, ad = fun a => if a < 166 then u a else b := ⟨_, rfl⟩
  have e1 : ∀ a, a < 166 → u a = ad a := fun a ha => by
    rw [had]
    exact (if_pos ha).symm
  have hb : bnW (x, gc, gs, ga, A) u = bnW (ad, gc, gs, ga, A) ad := bnW_congr (G := (ad, gc, gs, ga, A)) e1
  rw [hb] at hP hD
  have hR : kRep (ad, gc, gs, ga, A) M0 H := bn_fit (G := (ad, gc, gs, ga, A)) hP
  have hD2 : va_D A (kw (ad, gc, gs, ga, A) M0) := hD.fst kw_fst
  exact ⟨ad, (e1 0 (by decide)).symm, by rw [had]; rfl, hR, fun i j hi hj e => hD2.1 i j _ _ (kw_get hi) (kw_get hj) e, fun k hk => hD2.2 k _ (kw_get hk)⟩
set_option maxHeartbeats 4000000 in
/-- YOUR PART: from the entry, for every script of at most 260 ints, the law comes to its end with true ('hflags': the launch's flags, for a law that throws: no stack traces) -/
theorem whole_start {p : Program} {e : Env} {s : State} {m : MethodId} {below : List Frame} {meth : Method} {c : Code} (l : Launch) (hflags : l.flags = flags0) {b L : Nat} {xs : Nat → Int32} (hL : L ≤ 260) (C0 : lw_At p s m meth c b L xs) : W p l e room_1 s m #[Value.ref b] below meth c s.heap [] 0 0 (lw_Z below #[Value.ref b] s) (entryFrame m ([Value.ref b] : List Value).toArray 14) := by
  obtain ⟨hx, hb, hr, hml, hown, hts, hX, hbl, hlocks, hgv⟩ := id C0
  obtain ⟨A, hAe⟩ : ∃ A : Nat → Prop, A = fun q : Nat => s.heap.size ≤ q := ⟨_, rfl⟩
  have hA : ∀ q : Nat, s.heap.size ≤ q → A q := fun q h => by rw [hAe]; exact h
  have hbA : ¬ A b := by rw [hAe]; exact Nat.not_le.mpr hbl
  have htk : ∀ w ∈ kgT, w.before #[Value.ref b] s = true := fun w hw => hts w (lg_in hw).1
  obtain ⟨gc, gs, ga, hKA⟩ := k2K_of hts (fun _ => 0) A
  have hKK := hKA (fun _ => 0)
  have hS : va_S A s.heap s.heap [] := va_S.rf
  have hP : va_P (gc, gs) vwCl [] s.heap := fun k q h => by simp at h
  have hD : va_D A [] := ⟨fun i j p q h => by simp at h, fun k q h => by simp at h⟩
  have cf : CallFix p m c code 14 s #[Value.ref b] lw_tbl R_law := ⟨hx, hb, hml, hown, hts⟩
  have hl := lv_entry ([.ref b]) (n := 14) (Nat.le_of_ble_eq_true rfl)
  rw [lg_entry_eq]
  generalize (lg_sl ([.ref b]) ++ List.replicate (14 - (lg_sl ([.ref b])).length) Slot.unset).toArray = ls at hl ⊢
  have hl : lv_has ls 14 [(0, .ref b)] := hl
  refine mk_go (D := (gc, gs)) (ty := tyX3) (post := fun q u => u 0 = q) (w := fun (_ : Nat) (u : Nat → Nat) => bnW ((fun _ => 0), gc, gs, ga, A) u) (KK := k2K ((fun _ => 0), gc, gs, ga, A)) (ci := 3) (fs := [.null, .null, .null, .null, .int 0, .int 0]) (mc := 165) (ms := 1383) cf (fun w hw => (lg_in (hin3 w hw)).1) tyX3_ok (htk _ wcC_L_3) (htk _ wcN_3) (htk _ wI_3) hKK.1.1 hP hD hS hA rfl defB (fun a U g mk h => h.blind a U g mk) (fun U hW => hKK.warm hW) dL_law_0 dL_law_3 ⟨Nat.le_of_ble_eq_true rfl, Nat.le_of_ble_eq_true rfl⟩
    (fun q H1 hp => va_runI (As := []) (rest := [.ref q]) cf (c_X3_init l ((fun _ => 0), gc, gs, ga, A) q H1.size) (cwI (mc := 165) (ms := 1383) 0 hts gdB rfl rfl rfl (htk _ wI_3) (hts _ wmB) (htk _ wcI_3) rfl ⟨by decide, by decide, by decide +kernel⟩ ⟨Nat.le_of_ble_eq_true rfl, Nat.le_of_ble_eq_true rfl⟩) hp rfl rfl hl.1 rfl (lv_room (Nat.le_of_ble_eq_true rfl)) dL_law_4 ⟨Nat.le_of_ble_eq_true rfl, Nat.le_of_ble_eq_true rfl⟩) (fun q1 u H locs hu hP hD hS => ?_)
  refine lv_astore_n (lv' := [(1, .ref q1), (0, .ref b)]) hx hb dL_law_7 rfl hl (by decide) rfl (fun ls hl => ?_)
  refine lv_iconst (v := 0) hx hb dL_law_8 (by decide) ?_
  refine lv_istore_n (lv' := [(2, .int 0), (1, .ref q1), (0, .ref b)]) hx hb dL_law_9 rfl hl (by decide) rfl (fun ls hl => ?_)
  refine lv_iconst (v := 0) hx hb dL_law_10 (by decide) ?_
  refine lv_istore_n (lv' := [(3, .int 0), (2, .int 0), (1, .ref q1), (0, .ref b)]) hx hb dL_law_11 rfl hl (by decide) rfl (fun ls hl => ?_)
  obtain ⟨ad, e0, e166, hR, hOK⟩ := first_world (x := fun _ => 0) b hP hD
  rw [hu] at e0
  have cx : kCx (ad, gc, gs, ga, A) klaw p s m meth c #[Value.ref b] := ⟨hx, hb, hml, hr, hown, htk, hlocks, (hKA ad).1⟩
  have hls := lv_sub (l' := [(0, .ref b), (1, .ref q1), (2, .int 0), (3, .int 0)]) hl [3, 2, 1, 0] rfl
  refine law_loop (G := (ad, gc, gs, ga, A)) cx hOK e166 hX hbl hbA hL (Nat.le_of_ble_eq_true rfl) (Nat.le_of_ble_eq_true rfl) (fun H locs la hS => ?_) 36 0 rfl ls H locs S0 M0 ?_ hS hR x_S0 i_S0 j_S0
  · refine va_forget (fun q hq => ?_) ?_
    · have := hS.2.2 q hq
      rw [hAe] at this
      exact this
    refine W.widen (k := 600000) (n := 7302250) (Nat.le_of_ble_eq_true rfl) (Nat.le_of_ble_eq_true rfl) ?_
    exact lw_ret hx hb hr hlocks dL_law_440
  · show lv_has ls 14 [(0, .ref b), (1, .ref (ad 0)), (2, .int (nI 0)), (3, .int (nI 0))]
    rw [e0]
    exact hls
