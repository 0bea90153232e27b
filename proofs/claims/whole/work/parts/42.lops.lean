/-! the law's pairs of calls -/
def lSt (G : KG) (s : State) (b L i : Nat) (la : Array Slot) (H : Heap) (locs : List Loc) (S : KS) (N : Nat) : Prop := lv_has la 4 [(0, .ref b), (1, .ref (G.1 0)), (2, .ref (G.1 166)), (3, .int (nI i))] ∧ va_S G.2.2.2.2 s.heap H locs ∧ (∃ M, kRep G M H ∧ XR S M ∧ YR S M) ∧ IS S N ∧ N < 512 ∧ i + 5 ≤ L
def lNx (l : Launch) (G : KG) (p : Program) (e : Env) (s : State) (mid : MethodId) (below : List Frame) (meth : Method) (cd : Code) (Q : State → Prop) (b L i N kc ks : Nat) (la : Array Slot) : Prop := ∀ (H : Heap) (locs : List Loc) (S : KS), va_S G.2.2.2.2 s.heap H locs → (∃ M, kRep G M H ∧ XR S M ∧ YR S M) → IS S (N + 1) → W p l e room_1 s mid #[Value.ref b] below meth cd H locs kc ks Q (F0 mid 831 la [])
section LAW
variable {l : Launch} {G : KG} {p : Program} {e : Env} {s : State} {mid : MethodId} {below : List Frame} {meth : Method} {cd : Code} {Q : State → Prop} {b L i N kc ks : Nat} {xs : Nat → Int32} {H : Heap} {locs : List Loc} {la : Array Slot} {S : KS}
theorem law_arg {pc j : Nat} {jv : Int} {st : List Value} (hx : p.tables.exec = Jvm.exec) (hb : cd.code = code) (hX : va_X b L xs s s.heap) (hbl : b < s.heap.size) (hbA : ¬ G.2.2.2.2 b) (hS : va_S G.2.2.2.2 s.heap H locs) (hla : lv_has la 4 [(0, .ref b), (1, .ref (G.1 0)), (2, .ref (G.1 166)), (3, .int (nI i))]) (hL : L ≤ 2560) (hj : i + j < L) (hv : Int32.ofInt jv = nI j)
    (d1 : decode code pc = .ok (.aload_n 0, 1)) (d2 : decode code (pc + 1) = .ok (.iload_n 3, 1)) (d3 : decode code (pc + 2) = .ok (.iconst jv, 1)) (d4 : decode code (pc + 3) = .ok (.iadd, 1)) (d5 : decode code (pc + 4) = .ok (.iaload, 1))
    (kk : W p l e room_1 s mid #[Value.ref b] below meth cd H locs kc ks Q (F0 mid (pc + 5) la (.int (xs (i + j)) :: st))) : W p l e room_1 s mid #[Value.ref b] below meth cd H locs kc ks Q (F0 mid pc la st) := by
  refine lv_aload_n hx hb d1 rfl (lv_at hla 0 rfl) ?_
  refine lv_iload_n hx hb d2 rfl (lv_at hla 3 rfl) ?_
  refine lv_iconst (v := nI j) hx hb d3 hv ?_
  refine lv_iadd hx hb d4 ?_
  rw [nI_add]
  refine va_sld hx hb hX hbl hbA hS (vp_in_nI hj (by omega)) d5 ?_
  rw [nI_clamp (by omega)]
  exact kk
theorem lop_0 (cx : lCx G p s mid meth cd b) (hG : kOK G) (hX : va_X b L xs s s.heap) (hbl : b < s.heap.size) (hbA : ¬ G.2.2.2.2 b) (hL : L ≤ 2560) (hcs : kc + 0 ≤ room_1.cells ∧ ks + 0 ≤ room_1.slots) (h : lSt G s b L i la H locs S N) (kk : lNx l G p e s mid below meth cd Q b L i N kc ks la) : W p l e room_1 s mid #[Value.ref b] below meth cd H locs kc ks Q (F0 mid 164 la []) := by
  obtain ⟨hx, hb, -, -, -, -, -, -⟩ := id cx
  obtain ⟨hla, hS, ⟨M, hR, hXR, hYR⟩, hI, hN, hi⟩ := h
  obtain ⟨r0, S1, hI1, ox, oy⟩ := op_setMass (xs (i + 1)) (xs (i + 2)) S N hN hI
  refine lv_aload_n hx hb dL_law_164 rfl (lv_at hla 1 rfl) ?_
  refine law_arg (j := 1) hx hb hX hbl hbA hS hla hL (by omega) rfl dL_law_165 dL_law_166 dL_law_167 dL_law_168 dL_law_169 ?_
  refine law_arg (j := 2) hx hb hX hbl hbA hS hla hL (by omega) rfl dL_law_170 dL_law_171 dL_law_172 dL_law_173 dL_law_174 ?_
  refine law_call (m' := 29) (k := 0) (as' := [.int (xs (i + 1)), .int (xs (i + 2))]) (rest := []) cx dL_law_175 mok_29 rfl (c := 3) rfl rfl (by decide) (by decide) rfl lwL_X3_setMass lwI_X3_setMass lwS_X3_setMass wI_3 ⟨by decide, by decide⟩ (kmet hG (by decide) mok_29 rfl (Nat.le_of_ble_eq_true rfl) (ox M (fun r M' => r = some (.int r0) ∧ XR S1 M' ∧ Fx M M') hXR (fun M' h1 h2 => ⟨rfl, h1, h2⟩))) hR hS hla hcs (Nat.le_of_ble_eq_true rfl) (fun r M1 H1 locs1 hq hR1 hS => ?_)
  obtain ⟨er, hX1, hF1⟩ := hq
  cases er
  have hYR1 : YR S M1 := hYR.moved hF1
  refine lv_aload_n hx hb dL_law_178 rfl (lv_at hla 2 rfl) ?_
  refine law_arg (j := 1) hx hb hX hbl hbA hS hla hL (by omega) rfl dL_law_179 dL_law_180 dL_law_181 dL_law_182 dL_law_183 ?_
  refine law_arg (j := 2) hx hb hX hbl hbA hS hla hL (by omega) rfl dL_law_184 dL_law_185 dL_law_186 dL_law_187 dL_law_188 ?_
  refine law_call (m' := 70) (k := 166) (as' := [.int (xs (i + 1)), .int (xs (i + 2))]) (rest := [.int r0]) cx dL_law_189 mok_70 rfl (c := 4) rfl rfl (by decide) (by decide) rfl lwL_X4_setMass lwI_X4_setMass lwS_X4_setMass wI_4 ⟨by decide, by decide⟩ (kmet hG (by decide) mok_70 rfl (Nat.le_of_ble_eq_true rfl) (oy M1 (fun r M' => r = some (.int r0) ∧ YR S1 M' ∧ Fy M1 M') hYR1 (fun M' h1 h2 => ⟨rfl, h1, h2⟩))) hR1 hS hla hcs (Nat.le_of_ble_eq_true rfl) (fun r M2 H2 locs2 hq hR2 hS => ?_)
  obtain ⟨er, hY2, hF2⟩ := hq
  cases er
  refine lv_icmp_eq (x := r0) (y := r0) (rest := []) (tgt := 831) hx hb dL_law_192 (by decide) (fun _ => ?_) (fun z => absurd rfl z)
  exact kk H2 locs2 S1 hS ⟨M2, hR2, hX1.moved hF2, hY2⟩ hI1
theorem lop_1 (cx : lCx G p s mid meth cd b) (hG : kOK G) (hX : va_X b L xs s s.heap) (hbl : b < s.heap.size) (hbA : ¬ G.2.2.2.2 b) (hL : L ≤ 2560) (hcs : kc + 0 ≤ room_1.cells ∧ ks + 0 ≤ room_1.slots) (h : lSt G s b L i la H locs S N) (kk : lNx l G p e s mid below meth cd Q b L i N kc ks la) : W p l e room_1 s mid #[Value.ref b] below meth cd H locs kc ks Q (F0 mid 197 la []) := by
  obtain ⟨hx, hb, -, -, -, -, -, -⟩ := id cx
  obtain ⟨hla, hS, ⟨M, hR, hXR, hYR⟩, hI, hN, hi⟩ := h
  obtain ⟨r0, S1, hI1, ox, oy⟩ := op_mass (xs (i + 1)) S N hN hI
  refine lv_aload_n hx hb dL_law_197 rfl (lv_at hla 1 rfl) ?_
  refine law_arg (j := 1) hx hb hX hbl hbA hS hla hL (by omega) rfl dL_law_198 dL_law_199 dL_law_200 dL_law_201 dL_law_202 ?_
  refine law_call (m' := 30) (k := 0) (as' := [.int (xs (i + 1))]) (rest := []) cx dL_law_203 mok_30 rfl (c := 3) rfl rfl (by decide) (by decide) rfl lwL_X3_mass lwI_X3_mass lwS_X3_mass wI_3 ⟨by decide, by decide⟩ (kmet hG (by decide) mok_30 rfl (Nat.le_of_ble_eq_true rfl) (ox M (fun r M' => r = some (.int r0) ∧ XR S1 M' ∧ Fx M M') hXR (fun M' h1 h2 => ⟨rfl, h1, h2⟩))) hR hS hla hcs (Nat.le_of_ble_eq_true rfl) (fun r M1 H1 locs1 hq hR1 hS => ?_)
  obtain ⟨er, hX1, hF1⟩ := hq
  cases er
  have hYR1 : YR S M1 := hYR.moved hF1
  refine lv_aload_n hx hb dL_law_206 rfl (lv_at hla 2 rfl) ?_
  refine law_arg (j := 1) hx hb hX hbl hbA hS hla hL (by omega) rfl dL_law_207 dL_law_208 dL_law_209 dL_law_210 dL_law_211 ?_
  refine law_call (m' := 72) (k := 166) (as' := [.int (xs (i + 1))]) (rest := [.int r0]) cx dL_law_212 mok_72 rfl (c := 4) rfl rfl (by decide) (by decide) rfl lwL_X4_mass lwI_X4_mass lwS_X4_mass wI_4 ⟨by decide, by decide⟩ (kmet hG (by decide) mok_72 rfl (Nat.le_of_ble_eq_true rfl) (oy M1 (fun r M' => r = some (.int r0) ∧ YR S1 M' ∧ Fy M1 M') hYR1 (fun M' h1 h2 => ⟨rfl, h1, h2⟩))) hR1 hS hla hcs (Nat.le_of_ble_eq_true rfl) (fun r M2 H2 locs2 hq hR2 hS => ?_)
  obtain ⟨er, hY2, hF2⟩ := hq
  cases er
  refine lv_icmp_eq (x := r0) (y := r0) (rest := []) (tgt := 831) hx hb dL_law_215 (by decide) (fun _ => ?_) (fun z => absurd rfl z)
  exact kk H2 locs2 S1 hS ⟨M2, hR2, hX1.moved hF2, hY2⟩ hI1
theorem lop_2 (cx : lCx G p s mid meth cd b) (hG : kOK G) (hX : va_X b L xs s s.heap) (hbl : b < s.heap.size) (hbA : ¬ G.2.2.2.2 b) (hL : L ≤ 2560) (hcs : kc + 0 ≤ room_1.cells ∧ ks + 0 ≤ room_1.slots) (h : lSt G s b L i la H locs S N) (kk : lNx l G p e s mid below meth cd Q b L i N kc ks la) : W p l e room_1 s mid #[Value.ref b] below meth cd H locs kc ks Q (F0 mid 220 la []) := by
  obtain ⟨hx, hb, -, -, -, -, -, -⟩ := id cx
  obtain ⟨hla, hS, ⟨M, hR, hXR, hYR⟩, hI, hN, hi⟩ := h
  obtain ⟨r0, S1, hI1, ox, oy⟩ := op_reserve (xs (i + 1)) S N hN hI
  refine lv_aload_n hx hb dL_law_220 rfl (lv_at hla 1 rfl) ?_
  refine law_arg (j := 1) hx hb hX hbl hbA hS hla hL (by omega) rfl dL_law_221 dL_law_222 dL_law_223 dL_law_224 dL_law_225 ?_
  refine law_call (m' := 31) (k := 0) (as' := [.int (xs (i + 1))]) (rest := []) cx dL_law_226 mok_31 rfl (c := 3) rfl rfl (by decide) (by decide) rfl lwL_X3_reserve lwI_X3_reserve lwS_X3_reserve wI_3 ⟨by decide, by decide⟩ (kmet hG (by decide) mok_31 rfl (Nat.le_of_ble_eq_true rfl) (ox M (fun r M' => r = some (.int r0) ∧ XR S1 M' ∧ Fx M M') hXR (fun M' h1 h2 => ⟨rfl, h1, h2⟩))) hR hS hla hcs (Nat.le_of_ble_eq_true rfl) (fun r M1 H1 locs1 hq hR1 hS => ?_)
  obtain ⟨er, hX1, hF1⟩ := hq
  cases er
  have hYR1 : YR S M1 := hYR.moved hF1
  refine lv_aload_n hx hb dL_law_229 rfl (lv_at hla 2 rfl) ?_
  refine law_arg (j := 1) hx hb hX hbl hbA hS hla hL (by omega) rfl dL_law_230 dL_law_231 dL_law_232 dL_law_233 dL_law_234 ?_
  refine law_call (m' := 73) (k := 166) (as' := [.int (xs (i + 1))]) (rest := [.int r0]) cx dL_law_235 mok_73 rfl (c := 4) rfl rfl (by decide) (by decide) rfl lwL_X4_reserve lwI_X4_reserve lwS_X4_reserve wI_4 ⟨by decide, by decide⟩ (kmet hG (by decide) mok_73 rfl (Nat.le_of_ble_eq_true rfl) (oy M1 (fun r M' => r = some (.int r0) ∧ YR S1 M' ∧ Fy M1 M') hYR1 (fun M' h1 h2 => ⟨rfl, h1, h2⟩))) hR1 hS hla hcs (Nat.le_of_ble_eq_true rfl) (fun r M2 H2 locs2 hq hR2 hS => ?_)
  obtain ⟨er, hY2, hF2⟩ := hq
  cases er
  refine lv_icmp_eq (x := r0) (y := r0) (rest := []) (tgt := 831) hx hb dL_law_238 (by decide) (fun _ => ?_) (fun z => absurd rfl z)
  exact kk H2 locs2 S1 hS ⟨M2, hR2, hX1.moved hF2, hY2⟩ hI1
theorem lop_3 (cx : lCx G p s mid meth cd b) (hG : kOK G) (hX : va_X b L xs s s.heap) (hbl : b < s.heap.size) (hbA : ¬ G.2.2.2.2 b) (hL : L ≤ 2560) (hcs : kc + 0 ≤ room_1.cells ∧ ks + 0 ≤ room_1.slots) (h : lSt G s b L i la H locs S N) (kk : lNx l G p e s mid below meth cd Q b L i N kc ks la) : W p l e room_1 s mid #[Value.ref b] below meth cd H locs kc ks Q (F0 mid 243 la []) := by
  obtain ⟨hx, hb, -, -, -, -, -, -⟩ := id cx
  obtain ⟨hla, hS, ⟨M, hR, hXR, hYR⟩, hI, hN, hi⟩ := h
  obtain ⟨r0, S1, hI1, ox, oy⟩ := op_split (xs (i + 1)) S N hN hI
  refine lv_aload_n hx hb dL_law_243 rfl (lv_at hla 1 rfl) ?_
  refine law_arg (j := 1) hx hb hX hbl hbA hS hla hL (by omega) rfl dL_law_244 dL_law_245 dL_law_246 dL_law_247 dL_law_248 ?_
  refine law_call (m' := 32) (k := 0) (as' := [.int (xs (i + 1))]) (rest := []) cx dL_law_249 mok_32 rfl (c := 3) rfl rfl (by decide) (by decide) rfl lwL_X3_split lwI_X3_split lwS_X3_split wI_3 ⟨by decide, by decide⟩ (kmet hG (by decide) mok_32 rfl (Nat.le_of_ble_eq_true rfl) (ox M (fun r M' => r = some (.int r0) ∧ XR S1 M' ∧ Fx M M') hXR (fun M' h1 h2 => ⟨rfl, h1, h2⟩))) hR hS hla hcs (Nat.le_of_ble_eq_true rfl) (fun r M1 H1 locs1 hq hR1 hS => ?_)
  obtain ⟨er, hX1, hF1⟩ := hq
  cases er
  have hYR1 : YR S M1 := hYR.moved hF1
  refine lv_aload_n hx hb dL_law_252 rfl (lv_at hla 2 rfl) ?_
  refine law_arg (j := 1) hx hb hX hbl hbA hS hla hL (by omega) rfl dL_law_253 dL_law_254 dL_law_255 dL_law_256 dL_law_257 ?_
  refine law_call (m' := 75) (k := 166) (as' := [.int (xs (i + 1))]) (rest := [.int r0]) cx dL_law_258 mok_75 rfl (c := 4) rfl rfl (by decide) (by decide) rfl lwL_X4_split lwI_X4_split lwS_X4_split wI_4 ⟨by decide, by decide⟩ (kmet hG (by decide) mok_75 rfl (Nat.le_of_ble_eq_true rfl) (oy M1 (fun r M' => r = some (.int r0) ∧ YR S1 M' ∧ Fy M1 M') hYR1 (fun M' h1 h2 => ⟨rfl, h1, h2⟩))) hR1 hS hla hcs (Nat.le_of_ble_eq_true rfl) (fun r M2 H2 locs2 hq hR2 hS => ?_)
  obtain ⟨er, hY2, hF2⟩ := hq
  cases er
  refine lv_icmp_eq (x := r0) (y := r0) (rest := []) (tgt := 831) hx hb dL_law_261 (by decide) (fun _ => ?_) (fun z => absurd rfl z)
  exact kk H2 locs2 S1 hS ⟨M2, hR2, hX1.moved hF2, hY2⟩ hI1
theorem lop_4 (cx : lCx G p s mid meth cd b) (hG : kOK G) (hX : va_X b L xs s s.heap) (hbl : b < s.heap.size) (hbA : ¬ G.2.2.2.2 b) (hL : L ≤ 2560) (hcs : kc + 0 ≤ room_1.cells ∧ ks + 0 ≤ room_1.slots) (h : lSt G s b L i la H locs S N) (kk : lNx l G p e s mid below meth cd Q b L i N kc ks la) : W p l e room_1 s mid #[Value.ref b] below meth cd H locs kc ks Q (F0 mid 266 la []) := by
  obtain ⟨hx, hb, -, -, -, -, -, -⟩ := id cx
  obtain ⟨hla, hS, ⟨M, hR, hXR, hYR⟩, hI, hN, hi⟩ := h
  obtain ⟨r0, S1, hI1, ox, oy⟩ := op_splitTo (xs (i + 1)) S N hN hI
  refine lv_aload_n hx hb dL_law_266 rfl (lv_at hla 1 rfl) ?_
  refine law_arg (j := 1) hx hb hX hbl hbA hS hla hL (by omega) rfl dL_law_267 dL_law_268 dL_law_269 dL_law_270 dL_law_271 ?_
  refine law_call (m' := 33) (k := 0) (as' := [.int (xs (i + 1))]) (rest := []) cx dL_law_272 mok_33 rfl (c := 3) rfl rfl (by decide) (by decide) rfl lwL_X3_splitTo lwI_X3_splitTo lwS_X3_splitTo wI_3 ⟨by decide, by decide⟩ (kmet hG (by decide) mok_33 rfl (Nat.le_of_ble_eq_true rfl) (ox M (fun r M' => r = some (.int r0) ∧ XR S1 M' ∧ Fx M M') hXR (fun M' h1 h2 => ⟨rfl, h1, h2⟩))) hR hS hla hcs (Nat.le_of_ble_eq_true rfl) (fun r M1 H1 locs1 hq hR1 hS => ?_)
  obtain ⟨er, hX1, hF1⟩ := hq
  cases er
  have hYR1 : YR S M1 := hYR.moved hF1
  refine lv_aload_n hx hb dL_law_275 rfl (lv_at hla 2 rfl) ?_
  refine law_arg (j := 1) hx hb hX hbl hbA hS hla hL (by omega) rfl dL_law_276 dL_law_277 dL_law_278 dL_law_279 dL_law_280 ?_
  refine law_call (m' := 76) (k := 166) (as' := [.int (xs (i + 1))]) (rest := [.int r0]) cx dL_law_281 mok_76 rfl (c := 4) rfl rfl (by decide) (by decide) rfl lwL_X4_splitTo lwI_X4_splitTo lwS_X4_splitTo wI_4 ⟨by decide, by decide⟩ (kmet hG (by decide) mok_76 rfl (Nat.le_of_ble_eq_true rfl) (oy M1 (fun r M' => r = some (.int r0) ∧ YR S1 M' ∧ Fy M1 M') hYR1 (fun M' h1 h2 => ⟨rfl, h1, h2⟩))) hR1 hS hla hcs (Nat.le_of_ble_eq_true rfl) (fun r M2 H2 locs2 hq hR2 hS => ?_)
  obtain ⟨er, hY2, hF2⟩ := hq
  cases er
  refine lv_icmp_eq (x := r0) (y := r0) (rest := []) (tgt := 831) hx hb dL_law_284 (by decide) (fun _ => ?_) (fun z => absurd rfl z)
  exact kk H2 locs2 S1 hS ⟨M2, hR2, hX1.moved hF2, hY2⟩ hI1
theorem lop_5 (cx : lCx G p s mid meth cd b) (hG : kOK G) (hX : va_X b L xs s s.heap) (hbl : b < s.heap.size) (hbA : ¬ G.2.2.2.2 b) (hL : L ≤ 2560) (hcs : kc + 0 ≤ room_1.cells ∧ ks + 0 ≤ room_1.slots) (h : lSt G s b L i la H locs S N) (kk : lNx l G p e s mid below meth cd Q b L i N kc ks la) : W p l e room_1 s mid #[Value.ref b] below meth cd H locs kc ks Q (F0 mid 289 la []) := by
  obtain ⟨hx, hb, -, -, -, -, -, -⟩ := id cx
  obtain ⟨hla, hS, ⟨M, hR, hXR, hYR⟩, hI, hN, hi⟩ := h
  obtain ⟨r0, S1, hI1, ox, oy⟩ := op_combine S N hN hI
  refine lv_aload_n hx hb dL_law_289 rfl (lv_at hla 1 rfl) ?_
  refine law_call (m' := 34) (k := 0) (as' := []) (rest := []) cx dL_law_290 mok_34 rfl (c := 3) rfl rfl (by decide) (by decide) rfl lwL_X3_combine lwI_X3_combine lwS_X3_combine wI_3 ⟨by decide, by decide⟩ (kmet hG (by decide) mok_34 rfl (Nat.le_of_ble_eq_true rfl) (ox M (fun r M' => r = some (.int r0) ∧ XR S1 M' ∧ Fx M M') hXR (fun M' h1 h2 => ⟨rfl, h1, h2⟩))) hR hS hla hcs (Nat.le_of_ble_eq_true rfl) (fun r M1 H1 locs1 hq hR1 hS => ?_)
  obtain ⟨er, hX1, hF1⟩ := hq
  cases er
  have hYR1 : YR S M1 := hYR.moved hF1
  refine lv_aload_n hx hb dL_law_293 rfl (lv_at hla 2 rfl) ?_
  refine law_call (m' := 77) (k := 166) (as' := []) (rest := [.int r0]) cx dL_law_294 mok_77 rfl (c := 4) rfl rfl (by decide) (by decide) rfl lwL_X4_combine lwI_X4_combine lwS_X4_combine wI_4 ⟨by decide, by decide⟩ (kmet hG (by decide) mok_77 rfl (Nat.le_of_ble_eq_true rfl) (oy M1 (fun r M' => r = some (.int r0) ∧ YR S1 M' ∧ Fy M1 M') hYR1 (fun M' h1 h2 => ⟨rfl, h1, h2⟩))) hR1 hS hla hcs (Nat.le_of_ble_eq_true rfl) (fun r M2 H2 locs2 hq hR2 hS => ?_)
  obtain ⟨er, hY2, hF2⟩ := hq
  cases er
  refine lv_icmp_eq (x := r0) (y := r0) (rest := []) (tgt := 831) hx hb dL_law_297 (by decide) (fun _ => ?_) (fun z => absurd rfl z)
  exact kk H2 locs2 S1 hS ⟨M2, hR2, hX1.moved hF2, hY2⟩ hI1
theorem lop_6 (cx : lCx G p s mid meth cd b) (hG : kOK G) (hX : va_X b L xs s s.heap) (hbl : b < s.heap.size) (hbA : ¬ G.2.2.2.2 b) (hL : L ≤ 2560) (hcs : kc + 0 ≤ room_1.cells ∧ ks + 0 ≤ room_1.slots) (h : lSt G s b L i la H locs S N) (kk : lNx l G p e s mid below meth cd Q b L i N kc ks la) : W p l e room_1 s mid #[Value.ref b] below meth cd H locs kc ks Q (F0 mid 302 la []) := by
  obtain ⟨hx, hb, -, -, -, -, -, -⟩ := id cx
  obtain ⟨hla, hS, ⟨M, hR, hXR, hYR⟩, hI, hN, hi⟩ := h
  obtain ⟨r0, S1, hI1, ox, oy⟩ := op_appendCharacter (xs (i + 1)) S N hN hI
  refine lv_aload_n hx hb dL_law_302 rfl (lv_at hla 1 rfl) ?_
  refine law_arg (j := 1) hx hb hX hbl hbA hS hla hL (by omega) rfl dL_law_303 dL_law_304 dL_law_305 dL_law_306 dL_law_307 ?_
  refine law_call (m' := 35) (k := 0) (as' := [.int (xs (i + 1))]) (rest := []) cx dL_law_308 mok_35 rfl (c := 3) rfl rfl (by decide) (by decide) rfl lwL_X3_appendCharacter lwI_X3_appendCharacter lwS_X3_appendCharacter wI_3 ⟨by decide, by decide⟩ (kmet hG (by decide) mok_35 rfl (Nat.le_of_ble_eq_true rfl) (ox M (fun r M' => r = some (.int r0) ∧ XR S1 M' ∧ Fx M M') hXR (fun M' h1 h2 => ⟨rfl, h1, h2⟩))) hR hS hla hcs (Nat.le_of_ble_eq_true rfl) (fun r M1 H1 locs1 hq hR1 hS => ?_)
  obtain ⟨er, hX1, hF1⟩ := hq
  cases er
  have hYR1 : YR S M1 := hYR.moved hF1
  refine lv_aload_n hx hb dL_law_311 rfl (lv_at hla 2 rfl) ?_
  refine law_arg (j := 1) hx hb hX hbl hbA hS hla hL (by omega) rfl dL_law_312 dL_law_313 dL_law_314 dL_law_315 dL_law_316 ?_
  refine law_call (m' := 78) (k := 166) (as' := [.int (xs (i + 1))]) (rest := [.int r0]) cx dL_law_317 mok_78 rfl (c := 4) rfl rfl (by decide) (by decide) rfl lwL_X4_appendCharacter lwI_X4_appendCharacter lwS_X4_appendCharacter wI_4 ⟨by decide, by decide⟩ (kmet hG (by decide) mok_78 rfl (Nat.le_of_ble_eq_true rfl) (oy M1 (fun r M' => r = some (.int r0) ∧ YR S1 M' ∧ Fy M1 M') hYR1 (fun M' h1 h2 => ⟨rfl, h1, h2⟩))) hR1 hS hla hcs (Nat.le_of_ble_eq_true rfl) (fun r M2 H2 locs2 hq hR2 hS => ?_)
  obtain ⟨er, hY2, hF2⟩ := hq
  cases er
  refine lv_icmp_eq (x := r0) (y := r0) (rest := []) (tgt := 831) hx hb dL_law_320 (by decide) (fun _ => ?_) (fun z => absurd rfl z)
  exact kk H2 locs2 S1 hS ⟨M2, hR2, hX1.moved hF2, hY2⟩ hI1
theorem lop_7 (cx : lCx G p s mid meth cd b) (hG : kOK G) (hX : va_X b L xs s s.heap) (hbl : b < s.heap.size) (hbA : ¬ G.2.2.2.2 b) (hL : L ≤ 2560) (hcs : kc + 0 ≤ room_1.cells ∧ ks + 0 ≤ room_1.slots) (h : lSt G s b L i la H locs S N) (kk : lNx l G p e s mid below meth cd Q b L i N kc ks la) : W p l e room_1 s mid #[Value.ref b] below meth cd H locs kc ks Q (F0 mid 325 la []) := by
  obtain ⟨hx, hb, -, -, -, -, -, -⟩ := id cx
  obtain ⟨hla, hS, ⟨M, hR, hXR, hYR⟩, hI, hN, hi⟩ := h
  obtain ⟨r0, S1, hI1, ox, oy⟩ := op_clearText S N hN hI
  refine lv_aload_n hx hb dL_law_325 rfl (lv_at hla 1 rfl) ?_
  refine law_call (m' := 36) (k := 0) (as' := []) (rest := []) cx dL_law_326 mok_36 rfl (c := 3) rfl rfl (by decide) (by decide) rfl lwL_X3_clearText lwI_X3_clearText lwS_X3_clearText wI_3 ⟨by decide, by decide⟩ (kmet hG (by decide) mok_36 rfl (Nat.le_of_ble_eq_true rfl) (ox M (fun r M' => r = some (.int r0) ∧ XR S1 M' ∧ Fx M M') hXR (fun M' h1 h2 => ⟨rfl, h1, h2⟩))) hR hS hla hcs (Nat.le_of_ble_eq_true rfl) (fun r M1 H1 locs1 hq hR1 hS => ?_)
  obtain ⟨er, hX1, hF1⟩ := hq
  cases er
  have hYR1 : YR S M1 := hYR.moved hF1
  refine lv_aload_n hx hb dL_law_329 rfl (lv_at hla 2 rfl) ?_
  refine law_call (m' := 79) (k := 166) (as' := []) (rest := [.int r0]) cx dL_law_330 mok_79 rfl (c := 4) rfl rfl (by decide) (by decide) rfl lwL_X4_clearText lwI_X4_clearText lwS_X4_clearText wI_4 ⟨by decide, by decide⟩ (kmet hG (by decide) mok_79 rfl (Nat.le_of_ble_eq_true rfl) (oy M1 (fun r M' => r = some (.int r0) ∧ YR S1 M' ∧ Fy M1 M') hYR1 (fun M' h1 h2 => ⟨rfl, h1, h2⟩))) hR1 hS hla hcs (Nat.le_of_ble_eq_true rfl) (fun r M2 H2 locs2 hq hR2 hS => ?_)
  obtain ⟨er, hY2, hF2⟩ := hq
  cases er
  refine lv_icmp_eq (x := r0) (y := r0) (rest := []) (tgt := 831) hx hb dL_law_333 (by decide) (fun _ => ?_) (fun z => absurd rfl z)
  exact kk H2 locs2 S1 hS ⟨M2, hR2, hX1.moved hF2, hY2⟩ hI1
theorem lop_8 (cx : lCx G p s mid meth cd b) (hG : kOK G) (hX : va_X b L xs s s.heap) (hbl : b < s.heap.size) (hbA : ¬ G.2.2.2.2 b) (hL : L ≤ 2560) (hcs : kc + 0 ≤ room_1.cells ∧ ks + 0 ≤ room_1.slots) (h : lSt G s b L i la H locs S N) (kk : lNx l G p e s mid below meth cd Q b L i N kc ks la) : W p l e room_1 s mid #[Value.ref b] below meth cd H locs kc ks Q (F0 mid 338 la []) := by
  obtain ⟨hx, hb, -, -, -, -, -, -⟩ := id cx
  obtain ⟨hla, hS, ⟨M, hR, hXR, hYR⟩, hI, hN, hi⟩ := h
  obtain ⟨r0, S1, hI1, ox, oy⟩ := op_load S N hN hI
  refine lv_aload_n hx hb dL_law_338 rfl (lv_at hla 1 rfl) ?_
  refine law_call (m' := 37) (k := 0) (as' := []) (rest := []) cx dL_law_339 mok_37 rfl (c := 3) rfl rfl (by decide) (by decide) rfl lwL_X3_load lwI_X3_load lwS_X3_load wI_3 ⟨by decide, by decide⟩ (kmet hG (by decide) mok_37 rfl (Nat.le_of_ble_eq_true rfl) (ox M (fun r M' => r = some (.int r0) ∧ XR S1 M' ∧ Fx M M') hXR (fun M' h1 h2 => ⟨rfl, h1, h2⟩))) hR hS hla hcs (Nat.le_of_ble_eq_true rfl) (fun r M1 H1 locs1 hq hR1 hS => ?_)
  obtain ⟨er, hX1, hF1⟩ := hq
  cases er
  have hYR1 : YR S M1 := hYR.moved hF1
  refine lv_aload_n hx hb dL_law_342 rfl (lv_at hla 2 rfl) ?_
  refine law_call (m' := 83) (k := 166) (as' := []) (rest := [.int r0]) cx dL_law_343 mok_83 rfl (c := 4) rfl rfl (by decide) (by decide) rfl lwL_X4_load lwI_X4_load lwS_X4_load wI_4 ⟨by decide, by decide⟩ (kmet hG (by decide) mok_83 rfl (Nat.le_of_ble_eq_true rfl) (oy M1 (fun r M' => r = some (.int r0) ∧ YR S1 M' ∧ Fy M1 M') hYR1 (fun M' h1 h2 => ⟨rfl, h1, h2⟩))) hR1 hS hla hcs (Nat.le_of_ble_eq_true rfl) (fun r M2 H2 locs2 hq hR2 hS => ?_)
  obtain ⟨er, hY2, hF2⟩ := hq
  cases er
  refine lv_icmp_eq (x := r0) (y := r0) (rest := []) (tgt := 831) hx hb dL_law_346 (by decide) (fun _ => ?_) (fun z => absurd rfl z)
  exact kk H2 locs2 S1 hS ⟨M2, hR2, hX1.moved hF2, hY2⟩ hI1
theorem lop_9 (cx : lCx G p s mid meth cd b) (hG : kOK G) (hX : va_X b L xs s s.heap) (hbl : b < s.heap.size) (hbA : ¬ G.2.2.2.2 b) (hL : L ≤ 2560) (hcs : kc + 0 ≤ room_1.cells ∧ ks + 0 ≤ room_1.slots) (h : lSt G s b L i la H locs S N) (kk : lNx l G p e s mid below meth cd Q b L i N kc ks la) : W p l e room_1 s mid #[Value.ref b] below meth cd H locs kc ks Q (F0 mid 351 la []) := by
  obtain ⟨hx, hb, -, -, -, -, -, -⟩ := id cx
  obtain ⟨hla, hS, ⟨M, hR, hXR, hYR⟩, hI, hN, hi⟩ := h
  obtain ⟨r0, S1, hI1, ox, oy⟩ := op_addSieve (xs (i + 1)) S N hN hI
  refine lv_aload_n hx hb dL_law_351 rfl (lv_at hla 1 rfl) ?_
  refine law_arg (j := 1) hx hb hX hbl hbA hS hla hL (by omega) rfl dL_law_352 dL_law_353 dL_law_354 dL_law_355 dL_law_356 ?_
  refine law_call (m' := 38) (k := 0) (as' := [.int (xs (i + 1))]) (rest := []) cx dL_law_357 mok_38 rfl (c := 3) rfl rfl (by decide) (by decide) rfl lwL_X3_addSieve lwI_X3_addSieve lwS_X3_addSieve wI_3 ⟨by decide, by decide⟩ (kmet hG (by decide) mok_38 rfl (Nat.le_of_ble_eq_true rfl) (ox M (fun r M' => r = some (.int r0) ∧ XR S1 M' ∧ Fx M M') hXR (fun M' h1 h2 => ⟨rfl, h1, h2⟩))) hR hS hla hcs (Nat.le_of_ble_eq_true rfl) (fun r M1 H1 locs1 hq hR1 hS => ?_)
  obtain ⟨er, hX1, hF1⟩ := hq
  cases er
  have hYR1 : YR S M1 := hYR.moved hF1
  refine lv_aload_n hx hb dL_law_360 rfl (lv_at hla 2 rfl) ?_
  refine law_arg (j := 1) hx hb hX hbl hbA hS hla hL (by omega) rfl dL_law_361 dL_law_362 dL_law_363 dL_law_364 dL_law_365 ?_
  refine law_call (m' := 87) (k := 166) (as' := [.int (xs (i + 1))]) (rest := [.int r0]) cx dL_law_366 mok_87 rfl (c := 4) rfl rfl (by decide) (by decide) rfl lwL_X4_addSieve lwI_X4_addSieve lwS_X4_addSieve wI_4 ⟨by decide, by decide⟩ (kmet hG (by decide) mok_87 rfl (Nat.le_of_ble_eq_true rfl) (oy M1 (fun r M' => r = some (.int r0) ∧ YR S1 M' ∧ Fy M1 M') hYR1 (fun M' h1 h2 => ⟨rfl, h1, h2⟩))) hR1 hS hla hcs (Nat.le_of_ble_eq_true rfl) (fun r M2 H2 locs2 hq hR2 hS => ?_)
  obtain ⟨er, hY2, hF2⟩ := hq
  cases er
  refine lv_icmp_eq (x := r0) (y := r0) (rest := []) (tgt := 831) hx hb dL_law_369 (by decide) (fun _ => ?_) (fun z => absurd rfl z)
  exact kk H2 locs2 S1 hS ⟨M2, hR2, hX1.moved hF2, hY2⟩ hI1
theorem lop_10 (cx : lCx G p s mid meth cd b) (hG : kOK G) (hX : va_X b L xs s s.heap) (hbl : b < s.heap.size) (hbA : ¬ G.2.2.2.2 b) (hL : L ≤ 2560) (hcs : kc + 0 ≤ room_1.cells ∧ ks + 0 ≤ room_1.slots) (h : lSt G s b L i la H locs S N) (kk : lNx l G p e s mid below meth cd Q b L i N kc ks la) : W p l e room_1 s mid #[Value.ref b] below meth cd H locs kc ks Q (F0 mid 374 la []) := by
  obtain ⟨hx, hb, -, -, -, -, -, -⟩ := id cx
  obtain ⟨hla, hS, ⟨M, hR, hXR, hYR⟩, hI, hN, hi⟩ := h
  obtain ⟨r0, S1, hI1, ox, oy⟩ := op_removeSieve (xs (i + 1)) S N hN hI
  refine lv_aload_n hx hb dL_law_374 rfl (lv_at hla 1 rfl) ?_
  refine law_arg (j := 1) hx hb hX hbl hbA hS hla hL (by omega) rfl dL_law_375 dL_law_376 dL_law_377 dL_law_378 dL_law_379 ?_
  refine law_call (m' := 39) (k := 0) (as' := [.int (xs (i + 1))]) (rest := []) cx dL_law_380 mok_39 rfl (c := 3) rfl rfl (by decide) (by decide) rfl lwL_X3_removeSieve lwI_X3_removeSieve lwS_X3_removeSieve wI_3 ⟨by decide, by decide⟩ (kmet hG (by decide) mok_39 rfl (Nat.le_of_ble_eq_true rfl) (ox M (fun r M' => r = some (.int r0) ∧ XR S1 M' ∧ Fx M M') hXR (fun M' h1 h2 => ⟨rfl, h1, h2⟩))) hR hS hla hcs (Nat.le_of_ble_eq_true rfl) (fun r M1 H1 locs1 hq hR1 hS => ?_)
  obtain ⟨er, hX1, hF1⟩ := hq
  cases er
  have hYR1 : YR S M1 := hYR.moved hF1
  refine lv_aload_n hx hb dL_law_383 rfl (lv_at hla 2 rfl) ?_
  refine law_arg (j := 1) hx hb hX hbl hbA hS hla hL (by omega) rfl dL_law_384 dL_law_385 dL_law_386 dL_law_387 dL_law_388 ?_
  refine law_call (m' := 88) (k := 166) (as' := [.int (xs (i + 1))]) (rest := [.int r0]) cx dL_law_389 mok_88 rfl (c := 4) rfl rfl (by decide) (by decide) rfl lwL_X4_removeSieve lwI_X4_removeSieve lwS_X4_removeSieve wI_4 ⟨by decide, by decide⟩ (kmet hG (by decide) mok_88 rfl (Nat.le_of_ble_eq_true rfl) (oy M1 (fun r M' => r = some (.int r0) ∧ YR S1 M' ∧ Fy M1 M') hYR1 (fun M' h1 h2 => ⟨rfl, h1, h2⟩))) hR1 hS hla hcs (Nat.le_of_ble_eq_true rfl) (fun r M2 H2 locs2 hq hR2 hS => ?_)
  obtain ⟨er, hY2, hF2⟩ := hq
  cases er
  refine lv_icmp_eq (x := r0) (y := r0) (rest := []) (tgt := 831) hx hb dL_law_392 (by decide) (fun _ => ?_) (fun z => absurd rfl z)
  exact kk H2 locs2 S1 hS ⟨M2, hR2, hX1.moved hF2, hY2⟩ hI1
theorem lop_11 (cx : lCx G p s mid meth cd b) (hG : kOK G) (hX : va_X b L xs s s.heap) (hbl : b < s.heap.size) (hbA : ¬ G.2.2.2.2 b) (hL : L ≤ 2560) (hcs : kc + 0 ≤ room_1.cells ∧ ks + 0 ≤ room_1.slots) (h : lSt G s b L i la H locs S N) (kk : lNx l G p e s mid below meth cd Q b L i N kc ks la) : W p l e room_1 s mid #[Value.ref b] below meth cd H locs kc ks Q (F0 mid 397 la []) := by
  obtain ⟨hx, hb, -, -, -, -, -, -⟩ := id cx
  obtain ⟨hla, hS, ⟨M, hR, hXR, hYR⟩, hI, hN, hi⟩ := h
  obtain ⟨r0, S1, hI1, ox, oy⟩ := op_setRules (xs (i + 1)) (xs (i + 2)) (xs (i + 3)) (xs (i + 4)) S N hN hI
  refine lv_aload_n hx hb dL_law_397 rfl (lv_at hla 1 rfl) ?_
  refine law_arg (j := 1) hx hb hX hbl hbA hS hla hL (by omega) rfl dL_law_398 dL_law_399 dL_law_400 dL_law_401 dL_law_402 ?_
  refine law_arg (j := 2) hx hb hX hbl hbA hS hla hL (by omega) rfl dL_law_403 dL_law_404 dL_law_405 dL_law_406 dL_law_407 ?_
  refine law_arg (j := 3) hx hb hX hbl hbA hS hla hL (by omega) rfl dL_law_408 dL_law_409 dL_law_410 dL_law_411 dL_law_412 ?_
  refine law_arg (j := 4) hx hb hX hbl hbA hS hla hL (by omega) rfl dL_law_413 dL_law_414 dL_law_415 dL_law_416 dL_law_417 ?_
  refine law_call (m' := 40) (k := 0) (as' := [.int (xs (i + 1)), .int (xs (i + 2)), .int (xs (i + 3)), .int (xs (i + 4))]) (rest := []) cx dL_law_418 mok_40 rfl (c := 3) rfl rfl (by decide) (by decide) rfl lwL_X3_setRules lwI_X3_setRules lwS_X3_setRules wI_3 ⟨by decide, by decide⟩ (kmet hG (by decide) mok_40 rfl (Nat.le_of_ble_eq_true rfl) (ox M (fun r M' => r = some (.int r0) ∧ XR S1 M' ∧ Fx M M') hXR (fun M' h1 h2 => ⟨rfl, h1, h2⟩))) hR hS hla hcs (Nat.le_of_ble_eq_true rfl) (fun r M1 H1 locs1 hq hR1 hS => ?_)
  obtain ⟨er, hX1, hF1⟩ := hq
  cases er
  have hYR1 : YR S M1 := hYR.moved hF1
  refine lv_aload_n hx hb dL_law_421 rfl (lv_at hla 2 rfl) ?_
  refine law_arg (j := 1) hx hb hX hbl hbA hS hla hL (by omega) rfl dL_law_422 dL_law_423 dL_law_424 dL_law_425 dL_law_426 ?_
  refine law_arg (j := 2) hx hb hX hbl hbA hS hla hL (by omega) rfl dL_law_427 dL_law_428 dL_law_429 dL_law_430 dL_law_431 ?_
  refine law_arg (j := 3) hx hb hX hbl hbA hS hla hL (by omega) rfl dL_law_432 dL_law_433 dL_law_434 dL_law_435 dL_law_436 ?_
  refine law_arg (j := 4) hx hb hX hbl hbA hS hla hL (by omega) rfl dL_law_437 dL_law_438 dL_law_439 dL_law_440 dL_law_441 ?_
  refine law_call (m' := 90) (k := 166) (as' := [.int (xs (i + 1)), .int (xs (i + 2)), .int (xs (i + 3)), .int (xs (i + 4))]) (rest := [.int r0]) cx dL_law_442 mok_90 rfl (c := 4) rfl rfl (by decide) (by decide) rfl lwL_X4_setRules lwI_X4_setRules lwS_X4_setRules wI_4 ⟨by decide, by decide⟩ (kmet hG (by decide) mok_90 rfl (Nat.le_of_ble_eq_true rfl) (oy M1 (fun r M' => r = some (.int r0) ∧ YR S1 M' ∧ Fy M1 M') hYR1 (fun M' h1 h2 => ⟨rfl, h1, h2⟩))) hR1 hS hla hcs (Nat.le_of_ble_eq_true rfl) (fun r M2 H2 locs2 hq hR2 hS => ?_)
  obtain ⟨er, hY2, hF2⟩ := hq
  cases er
  refine lv_icmp_eq (x := r0) (y := r0) (rest := []) (tgt := 831) hx hb dL_law_445 (by decide) (fun _ => ?_) (fun z => absurd rfl z)
  exact kk H2 locs2 S1 hS ⟨M2, hR2, hX1.moved hF2, hY2⟩ hI1
theorem lop_12 (cx : lCx G p s mid meth cd b) (hG : kOK G) (hX : va_X b L xs s s.heap) (hbl : b < s.heap.size) (hbA : ¬ G.2.2.2.2 b) (hL : L ≤ 2560) (hcs : kc + 0 ≤ room_1.cells ∧ ks + 0 ≤ room_1.slots) (h : lSt G s b L i la H locs S N) (kk : lNx l G p e s mid below meth cd Q b L i N kc ks la) : W p l e room_1 s mid #[Value.ref b] below meth cd H locs kc ks Q (F0 mid 450 la []) := by
  obtain ⟨hx, hb, -, -, -, -, -, -⟩ := id cx
  obtain ⟨hla, hS, ⟨M, hR, hXR, hYR⟩, hI, hN, hi⟩ := h
  obtain ⟨r0, S1, hI1, ox, oy⟩ := op_setBand (xs (i + 1)) (xs (i + 2)) (xs (i + 3)) S N hN hI
  refine lv_aload_n hx hb dL_law_450 rfl (lv_at hla 1 rfl) ?_
  refine law_arg (j := 1) hx hb hX hbl hbA hS hla hL (by omega) rfl dL_law_451 dL_law_452 dL_law_453 dL_law_454 dL_law_455 ?_
  refine law_arg (j := 2) hx hb hX hbl hbA hS hla hL (by omega) rfl dL_law_456 dL_law_457 dL_law_458 dL_law_459 dL_law_460 ?_
  refine law_arg (j := 3) hx hb hX hbl hbA hS hla hL (by omega) rfl dL_law_461 dL_law_462 dL_law_463 dL_law_464 dL_law_465 ?_
  refine law_call (m' := 41) (k := 0) (as' := [.int (xs (i + 1)), .int (xs (i + 2)), .int (xs (i + 3))]) (rest := []) cx dL_law_466 mok_41 rfl (c := 3) rfl rfl (by decide) (by decide) rfl lwL_X3_setBand lwI_X3_setBand lwS_X3_setBand wI_3 ⟨by decide, by decide⟩ (kmet hG (by decide) mok_41 rfl (Nat.le_of_ble_eq_true rfl) (ox M (fun r M' => r = some (.int r0) ∧ XR S1 M' ∧ Fx M M') hXR (fun M' h1 h2 => ⟨rfl, h1, h2⟩))) hR hS hla hcs (Nat.le_of_ble_eq_true rfl) (fun r M1 H1 locs1 hq hR1 hS => ?_)
  obtain ⟨er, hX1, hF1⟩ := hq
  cases er
  have hYR1 : YR S M1 := hYR.moved hF1
  refine lv_aload_n hx hb dL_law_469 rfl (lv_at hla 2 rfl) ?_
  refine law_arg (j := 1) hx hb hX hbl hbA hS hla hL (by omega) rfl dL_law_470 dL_law_471 dL_law_472 dL_law_473 dL_law_474 ?_
  refine law_arg (j := 2) hx hb hX hbl hbA hS hla hL (by omega) rfl dL_law_475 dL_law_476 dL_law_477 dL_law_478 dL_law_479 ?_
  refine law_arg (j := 3) hx hb hX hbl hbA hS hla hL (by omega) rfl dL_law_480 dL_law_481 dL_law_482 dL_law_483 dL_law_484 ?_
  refine law_call (m' := 91) (k := 166) (as' := [.int (xs (i + 1)), .int (xs (i + 2)), .int (xs (i + 3))]) (rest := [.int r0]) cx dL_law_485 mok_91 rfl (c := 4) rfl rfl (by decide) (by decide) rfl lwL_X4_setBand lwI_X4_setBand lwS_X4_setBand wI_4 ⟨by decide, by decide⟩ (kmet hG (by decide) mok_91 rfl (Nat.le_of_ble_eq_true rfl) (oy M1 (fun r M' => r = some (.int r0) ∧ YR S1 M' ∧ Fy M1 M') hYR1 (fun M' h1 h2 => ⟨rfl, h1, h2⟩))) hR1 hS hla hcs (Nat.le_of_ble_eq_true rfl) (fun r M2 H2 locs2 hq hR2 hS => ?_)
  obtain ⟨er, hY2, hF2⟩ := hq
  cases er
  refine lv_icmp_eq (x := r0) (y := r0) (rest := []) (tgt := 831) hx hb dL_law_488 (by decide) (fun _ => ?_) (fun z => absurd rfl z)
  exact kk H2 locs2 S1 hS ⟨M2, hR2, hX1.moved hF2, hY2⟩ hI1
theorem lop_13 (cx : lCx G p s mid meth cd b) (hG : kOK G) (hX : va_X b L xs s s.heap) (hbl : b < s.heap.size) (hbA : ¬ G.2.2.2.2 b) (hL : L ≤ 2560) (hcs : kc + 0 ≤ room_1.cells ∧ ks + 0 ≤ room_1.slots) (h : lSt G s b L i la H locs S N) (kk : lNx l G p e s mid below meth cd Q b L i N kc ks la) : W p l e room_1 s mid #[Value.ref b] below meth cd H locs kc ks Q (F0 mid 493 la []) := by
  obtain ⟨hx, hb, -, -, -, -, -, -⟩ := id cx
  obtain ⟨hla, hS, ⟨M, hR, hXR, hYR⟩, hI, hN, hi⟩ := h
  obtain ⟨r0, S1, hI1, ox, oy⟩ := op_count (xs (i + 1)) S N hN hI
  refine lv_aload_n hx hb dL_law_493 rfl (lv_at hla 1 rfl) ?_
  refine law_arg (j := 1) hx hb hX hbl hbA hS hla hL (by omega) rfl dL_law_494 dL_law_495 dL_law_496 dL_law_497 dL_law_498 ?_
  refine law_call (m' := 42) (k := 0) (as' := [.int (xs (i + 1))]) (rest := []) cx dL_law_499 mok_42 rfl (c := 3) rfl rfl (by decide) (by decide) rfl lwL_X3_count lwI_X3_count lwS_X3_count wI_3 ⟨by decide, by decide⟩ (kmet hG (by decide) mok_42 rfl (Nat.le_of_ble_eq_true rfl) (ox M (fun r M' => r = some (.int r0) ∧ XR S1 M' ∧ Fx M M') hXR (fun M' h1 h2 => ⟨rfl, h1, h2⟩))) hR hS hla hcs (Nat.le_of_ble_eq_true rfl) (fun r M1 H1 locs1 hq hR1 hS => ?_)
  obtain ⟨er, hX1, hF1⟩ := hq
  cases er
  have hYR1 : YR S M1 := hYR.moved hF1
  refine lv_aload_n hx hb dL_law_502 rfl (lv_at hla 2 rfl) ?_
  refine law_arg (j := 1) hx hb hX hbl hbA hS hla hL (by omega) rfl dL_law_503 dL_law_504 dL_law_505 dL_law_506 dL_law_507 ?_
  refine law_call (m' := 92) (k := 166) (as' := [.int (xs (i + 1))]) (rest := [.int r0]) cx dL_law_508 mok_92 rfl (c := 4) rfl rfl (by decide) (by decide) rfl lwL_X4_count lwI_X4_count lwS_X4_count wI_4 ⟨by decide, by decide⟩ (kmet hG (by decide) mok_92 rfl (Nat.le_of_ble_eq_true rfl) (oy M1 (fun r M' => r = some (.int r0) ∧ YR S1 M' ∧ Fy M1 M') hYR1 (fun M' h1 h2 => ⟨rfl, h1, h2⟩))) hR1 hS hla hcs (Nat.le_of_ble_eq_true rfl) (fun r M2 H2 locs2 hq hR2 hS => ?_)
  obtain ⟨er, hY2, hF2⟩ := hq
  cases er
  refine lv_icmp_eq (x := r0) (y := r0) (rest := []) (tgt := 831) hx hb dL_law_511 (by decide) (fun _ => ?_) (fun z => absurd rfl z)
  exact kk H2 locs2 S1 hS ⟨M2, hR2, hX1.moved hF2, hY2⟩ hI1
theorem lop_14 (cx : lCx G p s mid meth cd b) (hG : kOK G) (hX : va_X b L xs s s.heap) (hbl : b < s.heap.size) (hbA : ¬ G.2.2.2.2 b) (hL : L ≤ 2560) (hcs : kc + 0 ≤ room_1.cells ∧ ks + 0 ≤ room_1.slots) (h : lSt G s b L i la H locs S N) (kk : lNx l G p e s mid below meth cd Q b L i N kc ks la) : W p l e room_1 s mid #[Value.ref b] below meth cd H locs kc ks Q (F0 mid 516 la []) := by
  obtain ⟨hx, hb, -, -, -, -, -, -⟩ := id cx
  obtain ⟨hla, hS, ⟨M, hR, hXR, hYR⟩, hI, hN, hi⟩ := h
  obtain ⟨r0, S1, hI1, ox, oy⟩ := op_tray (xs (i + 1)) (xs (i + 2)) S N hN hI
  refine lv_aload_n hx hb dL_law_516 rfl (lv_at hla 1 rfl) ?_
  refine law_arg (j := 1) hx hb hX hbl hbA hS hla hL (by omega) rfl dL_law_517 dL_law_518 dL_law_519 dL_law_520 dL_law_521 ?_
  refine law_arg (j := 2) hx hb hX hbl hbA hS hla hL (by omega) rfl dL_law_522 dL_law_523 dL_law_524 dL_law_525 dL_law_526 ?_
  refine law_call (m' := 43) (k := 0) (as' := [.int (xs (i + 1)), .int (xs (i + 2))]) (rest := []) cx dL_law_527 mok_43 rfl (c := 3) rfl rfl (by decide) (by decide) rfl lwL_X3_tray lwI_X3_tray lwS_X3_tray wI_3 ⟨by decide, by decide⟩ (kmet hG (by decide) mok_43 rfl (Nat.le_of_ble_eq_true rfl) (ox M (fun r M' => r = some (.int r0) ∧ XR S1 M' ∧ Fx M M') hXR (fun M' h1 h2 => ⟨rfl, h1, h2⟩))) hR hS hla hcs (Nat.le_of_ble_eq_true rfl) (fun r M1 H1 locs1 hq hR1 hS => ?_)
  obtain ⟨er, hX1, hF1⟩ := hq
  cases er
  have hYR1 : YR S M1 := hYR.moved hF1
  refine lv_aload_n hx hb dL_law_530 rfl (lv_at hla 2 rfl) ?_
  refine law_arg (j := 1) hx hb hX hbl hbA hS hla hL (by omega) rfl dL_law_531 dL_law_532 dL_law_533 dL_law_534 dL_law_535 ?_
  refine law_arg (j := 2) hx hb hX hbl hbA hS hla hL (by omega) rfl dL_law_536 dL_law_537 dL_law_538 dL_law_539 dL_law_540 ?_
  refine law_call (m' := 96) (k := 166) (as' := [.int (xs (i + 1)), .int (xs (i + 2))]) (rest := [.int r0]) cx dL_law_541 mok_96 rfl (c := 4) rfl rfl (by decide) (by decide) rfl lwL_X4_tray lwI_X4_tray lwS_X4_tray wI_4 ⟨by decide, by decide⟩ (kmet hG (by decide) mok_96 rfl (Nat.le_of_ble_eq_true rfl) (oy M1 (fun r M' => r = some (.int r0) ∧ YR S1 M' ∧ Fy M1 M') hYR1 (fun M' h1 h2 => ⟨rfl, h1, h2⟩))) hR1 hS hla hcs (Nat.le_of_ble_eq_true rfl) (fun r M2 H2 locs2 hq hR2 hS => ?_)
  obtain ⟨er, hY2, hF2⟩ := hq
  cases er
  refine lv_icmp_eq (x := r0) (y := r0) (rest := []) (tgt := 831) hx hb dL_law_544 (by decide) (fun _ => ?_) (fun z => absurd rfl z)
  exact kk H2 locs2 S1 hS ⟨M2, hR2, hX1.moved hF2, hY2⟩ hI1
theorem lop_15 (cx : lCx G p s mid meth cd b) (hG : kOK G) (hX : va_X b L xs s s.heap) (hbl : b < s.heap.size) (hbA : ¬ G.2.2.2.2 b) (hL : L ≤ 2560) (hcs : kc + 0 ≤ room_1.cells ∧ ks + 0 ≤ room_1.slots) (h : lSt G s b L i la H locs S N) (kk : lNx l G p e s mid below meth cd Q b L i N kc ks la) : W p l e room_1 s mid #[Value.ref b] below meth cd H locs kc ks Q (F0 mid 549 la []) := by
  obtain ⟨hx, hb, -, -, -, -, -, -⟩ := id cx
  obtain ⟨hla, hS, ⟨M, hR, hXR, hYR⟩, hI, hN, hi⟩ := h
  obtain ⟨r0, S1, hI1, ox, oy⟩ := op_on (xs (i + 1)) (xs (i + 2)) S N hN hI
  refine lv_aload_n hx hb dL_law_549 rfl (lv_at hla 1 rfl) ?_
  refine law_arg (j := 1) hx hb hX hbl hbA hS hla hL (by omega) rfl dL_law_550 dL_law_551 dL_law_552 dL_law_553 dL_law_554 ?_
  refine law_arg (j := 2) hx hb hX hbl hbA hS hla hL (by omega) rfl dL_law_555 dL_law_556 dL_law_557 dL_law_558 dL_law_559 ?_
  refine law_call (m' := 44) (k := 0) (as' := [.int (xs (i + 1)), .int (xs (i + 2))]) (rest := []) cx dL_law_560 mok_44 rfl (c := 3) rfl rfl (by decide) (by decide) rfl lwL_X3_on lwI_X3_on lwS_X3_on wI_3 ⟨by decide, by decide⟩ (kmet hG (by decide) mok_44 rfl (Nat.le_of_ble_eq_true rfl) (ox M (fun r M' => r = some (.int r0) ∧ XR S1 M' ∧ Fx M M') hXR (fun M' h1 h2 => ⟨rfl, h1, h2⟩))) hR hS hla hcs (Nat.le_of_ble_eq_true rfl) (fun r M1 H1 locs1 hq hR1 hS => ?_)
  obtain ⟨er, hX1, hF1⟩ := hq
  cases er
  have hYR1 : YR S M1 := hYR.moved hF1
  refine lv_aload_n hx hb dL_law_563 rfl (lv_at hla 2 rfl) ?_
  refine law_arg (j := 1) hx hb hX hbl hbA hS hla hL (by omega) rfl dL_law_564 dL_law_565 dL_law_566 dL_law_567 dL_law_568 ?_
  refine law_arg (j := 2) hx hb hX hbl hbA hS hla hL (by omega) rfl dL_law_569 dL_law_570 dL_law_571 dL_law_572 dL_law_573 ?_
  refine law_call (m' := 97) (k := 166) (as' := [.int (xs (i + 1)), .int (xs (i + 2))]) (rest := [.int r0]) cx dL_law_574 mok_97 rfl (c := 4) rfl rfl (by decide) (by decide) rfl lwL_X4_on lwI_X4_on lwS_X4_on wI_4 ⟨by decide, by decide⟩ (kmet hG (by decide) mok_97 rfl (Nat.le_of_ble_eq_true rfl) (oy M1 (fun r M' => r = some (.int r0) ∧ YR S1 M' ∧ Fy M1 M') hYR1 (fun M' h1 h2 => ⟨rfl, h1, h2⟩))) hR1 hS hla hcs (Nat.le_of_ble_eq_true rfl) (fun r M2 H2 locs2 hq hR2 hS => ?_)
  obtain ⟨er, hY2, hF2⟩ := hq
  cases er
  refine lv_icmp_eq (x := r0) (y := r0) (rest := []) (tgt := 831) hx hb dL_law_577 (by decide) (fun _ => ?_) (fun z => absurd rfl z)
  exact kk H2 locs2 S1 hS ⟨M2, hR2, hX1.moved hF2, hY2⟩ hI1
theorem lop_16 (cx : lCx G p s mid meth cd b) (hG : kOK G) (hX : va_X b L xs s s.heap) (hbl : b < s.heap.size) (hbA : ¬ G.2.2.2.2 b) (hL : L ≤ 2560) (hcs : kc + 0 ≤ room_1.cells ∧ ks + 0 ≤ room_1.slots) (h : lSt G s b L i la H locs S N) (kk : lNx l G p e s mid below meth cd Q b L i N kc ks la) : W p l e room_1 s mid #[Value.ref b] below meth cd H locs kc ks Q (F0 mid 582 la []) := by
  obtain ⟨hx, hb, -, -, -, -, -, -⟩ := id cx
  obtain ⟨hla, hS, ⟨M, hR, hXR, hYR⟩, hI, hN, hi⟩ := h
  obtain ⟨r0, S1, hI1, ox, oy⟩ := op_charge S N hN hI
  refine lv_aload_n hx hb dL_law_582 rfl (lv_at hla 1 rfl) ?_
  refine law_call (m' := 45) (k := 0) (as' := []) (rest := []) cx dL_law_583 mok_45 rfl (c := 3) rfl rfl (by decide) (by decide) rfl lwL_X3_charge lwI_X3_charge lwS_X3_charge wI_3 ⟨by decide, by decide⟩ (kmet hG (by decide) mok_45 rfl (Nat.le_of_ble_eq_true rfl) (ox M (fun r M' => r = some (.int r0) ∧ XR S1 M' ∧ Fx M M') hXR (fun M' h1 h2 => ⟨rfl, h1, h2⟩))) hR hS hla hcs (Nat.le_of_ble_eq_true rfl) (fun r M1 H1 locs1 hq hR1 hS => ?_)
  obtain ⟨er, hX1, hF1⟩ := hq
  cases er
  have hYR1 : YR S M1 := hYR.moved hF1
  refine lv_aload_n hx hb dL_law_586 rfl (lv_at hla 2 rfl) ?_
  refine law_call (m' := 98) (k := 166) (as' := []) (rest := [.int r0]) cx dL_law_587 mok_98 rfl (c := 4) rfl rfl (by decide) (by decide) rfl lwL_X4_charge lwI_X4_charge lwS_X4_charge wI_4 ⟨by decide, by decide⟩ (kmet hG (by decide) mok_98 rfl (Nat.le_of_ble_eq_true rfl) (oy M1 (fun r M' => r = some (.int r0) ∧ YR S1 M' ∧ Fy M1 M') hYR1 (fun M' h1 h2 => ⟨rfl, h1, h2⟩))) hR1 hS hla hcs (Nat.le_of_ble_eq_true rfl) (fun r M2 H2 locs2 hq hR2 hS => ?_)
  obtain ⟨er, hY2, hF2⟩ := hq
  cases er
  refine lv_icmp_eq (x := r0) (y := r0) (rest := []) (tgt := 831) hx hb dL_law_590 (by decide) (fun _ => ?_) (fun z => absurd rfl z)
  exact kk H2 locs2 S1 hS ⟨M2, hR2, hX1.moved hF2, hY2⟩ hI1
theorem lop_17 (cx : lCx G p s mid meth cd b) (hG : kOK G) (hX : va_X b L xs s s.heap) (hbl : b < s.heap.size) (hbA : ¬ G.2.2.2.2 b) (hL : L ≤ 2560) (hcs : kc + 0 ≤ room_1.cells ∧ ks + 0 ≤ room_1.slots) (h : lSt G s b L i la H locs S N) (kk : lNx l G p e s mid below meth cd Q b L i N kc ks la) : W p l e room_1 s mid #[Value.ref b] below meth cd H locs kc ks Q (F0 mid 595 la []) := by
  obtain ⟨hx, hb, -, -, -, -, -, -⟩ := id cx
  obtain ⟨hla, hS, ⟨M, hR, hXR, hYR⟩, hI, hN, hi⟩ := h
  obtain ⟨r0, S1, hI1, ox, oy⟩ := op_shake (xs (i + 1)) S N hN hI
  refine lv_aload_n hx hb dL_law_595 rfl (lv_at hla 1 rfl) ?_
  refine law_arg (j := 1) hx hb hX hbl hbA hS hla hL (by omega) rfl dL_law_596 dL_law_597 dL_law_598 dL_law_599 dL_law_600 ?_
  refine law_call (m' := 46) (k := 0) (as' := [.int (xs (i + 1))]) (rest := []) cx dL_law_601 mok_46 rfl (c := 3) rfl rfl (by decide) (by decide) rfl lwL_X3_shake lwI_X3_shake lwS_X3_shake wI_3 ⟨by decide, by decide⟩ (kmet hG (by decide) mok_46 rfl (Nat.le_of_ble_eq_true rfl) (ox M (fun r M' => r = some (.int r0) ∧ XR S1 M' ∧ Fx M M') hXR (fun M' h1 h2 => ⟨rfl, h1, h2⟩))) hR hS hla hcs (Nat.le_of_ble_eq_true rfl) (fun r M1 H1 locs1 hq hR1 hS => ?_)
  obtain ⟨er, hX1, hF1⟩ := hq
  cases er
  have hYR1 : YR S M1 := hYR.moved hF1
  refine lv_aload_n hx hb dL_law_604 rfl (lv_at hla 2 rfl) ?_
  refine law_arg (j := 1) hx hb hX hbl hbA hS hla hL (by omega) rfl dL_law_605 dL_law_606 dL_law_607 dL_law_608 dL_law_609 ?_
  refine law_call (m' := 101) (k := 166) (as' := [.int (xs (i + 1))]) (rest := [.int r0]) cx dL_law_610 mok_101 rfl (c := 4) rfl rfl (by decide) (by decide) rfl lwL_X4_shake lwI_X4_shake lwS_X4_shake wI_4 ⟨by decide, by decide⟩ (kmet hG (by decide) mok_101 rfl (Nat.le_of_ble_eq_true rfl) (oy M1 (fun r M' => r = some (.int r0) ∧ YR S1 M' ∧ Fy M1 M') hYR1 (fun M' h1 h2 => ⟨rfl, h1, h2⟩))) hR1 hS hla hcs (Nat.le_of_ble_eq_true rfl) (fun r M2 H2 locs2 hq hR2 hS => ?_)
  obtain ⟨er, hY2, hF2⟩ := hq
  cases er
  refine lv_icmp_eq (x := r0) (y := r0) (rest := []) (tgt := 831) hx hb dL_law_613 (by decide) (fun _ => ?_) (fun z => absurd rfl z)
  exact kk H2 locs2 S1 hS ⟨M2, hR2, hX1.moved hF2, hY2⟩ hI1
theorem lop_18 (cx : lCx G p s mid meth cd b) (hG : kOK G) (hX : va_X b L xs s s.heap) (hbl : b < s.heap.size) (hbA : ¬ G.2.2.2.2 b) (hL : L ≤ 2560) (hcs : kc + 0 ≤ room_1.cells ∧ ks + 0 ≤ room_1.slots) (h : lSt G s b L i la H locs S N) (kk : lNx l G p e s mid below meth cd Q b L i N kc ks la) : W p l e room_1 s mid #[Value.ref b] below meth cd H locs kc ks Q (F0 mid 618 la []) := by
  obtain ⟨hx, hb, -, -, -, -, -, -⟩ := id cx
  obtain ⟨hla, hS, ⟨M, hR, hXR, hYR⟩, hI, hN, hi⟩ := h
  obtain ⟨r0, S1, hI1, ox, oy⟩ := op_collect (xs (i + 1)) S N hN hI
  refine lv_aload_n hx hb dL_law_618 rfl (lv_at hla 1 rfl) ?_
  refine law_arg (j := 1) hx hb hX hbl hbA hS hla hL (by omega) rfl dL_law_619 dL_law_620 dL_law_621 dL_law_622 dL_law_623 ?_
  refine law_call (m' := 47) (k := 0) (as' := [.int (xs (i + 1))]) (rest := []) cx dL_law_624 mok_47 rfl (c := 3) rfl rfl (by decide) (by decide) rfl lwL_X3_collect lwI_X3_collect lwS_X3_collect wI_3 ⟨by decide, by decide⟩ (kmet hG (by decide) mok_47 rfl (Nat.le_of_ble_eq_true rfl) (ox M (fun r M' => r = some (.int r0) ∧ XR S1 M' ∧ Fx M M') hXR (fun M' h1 h2 => ⟨rfl, h1, h2⟩))) hR hS hla hcs (Nat.le_of_ble_eq_true rfl) (fun r M1 H1 locs1 hq hR1 hS => ?_)
  obtain ⟨er, hX1, hF1⟩ := hq
  cases er
  have hYR1 : YR S M1 := hYR.moved hF1
  refine lv_aload_n hx hb dL_law_627 rfl (lv_at hla 2 rfl) ?_
  refine law_arg (j := 1) hx hb hX hbl hbA hS hla hL (by omega) rfl dL_law_628 dL_law_629 dL_law_630 dL_law_631 dL_law_632 ?_
  refine law_call (m' := 102) (k := 166) (as' := [.int (xs (i + 1))]) (rest := [.int r0]) cx dL_law_633 mok_102 rfl (c := 4) rfl rfl (by decide) (by decide) rfl lwL_X4_collect lwI_X4_collect lwS_X4_collect wI_4 ⟨by decide, by decide⟩ (kmet hG (by decide) mok_102 rfl (Nat.le_of_ble_eq_true rfl) (oy M1 (fun r M' => r = some (.int r0) ∧ YR S1 M' ∧ Fy M1 M') hYR1 (fun M' h1 h2 => ⟨rfl, h1, h2⟩))) hR1 hS hla hcs (Nat.le_of_ble_eq_true rfl) (fun r M2 H2 locs2 hq hR2 hS => ?_)
  obtain ⟨er, hY2, hF2⟩ := hq
  cases er
  refine lv_icmp_eq (x := r0) (y := r0) (rest := []) (tgt := 831) hx hb dL_law_636 (by decide) (fun _ => ?_) (fun z => absurd rfl z)
  exact kk H2 locs2 S1 hS ⟨M2, hR2, hX1.moved hF2, hY2⟩ hI1
theorem lop_19 (cx : lCx G p s mid meth cd b) (hG : kOK G) (hX : va_X b L xs s s.heap) (hbl : b < s.heap.size) (hbA : ¬ G.2.2.2.2 b) (hL : L ≤ 2560) (hcs : kc + 0 ≤ room_1.cells ∧ ks + 0 ≤ room_1.slots) (h : lSt G s b L i la H locs S N) (kk : lNx l G p e s mid below meth cd Q b L i N kc ks la) : W p l e room_1 s mid #[Value.ref b] below meth cd H locs kc ks Q (F0 mid 641 la []) := by
  obtain ⟨hx, hb, -, -, -, -, -, -⟩ := id cx
  obtain ⟨hla, hS, ⟨M, hR, hXR, hYR⟩, hI, hN, hi⟩ := h
  obtain ⟨r0, S1, hI1, ox, oy⟩ := op_brush (xs (i + 1)) (xs (i + 2)) S N hN hI
  refine lv_aload_n hx hb dL_law_641 rfl (lv_at hla 1 rfl) ?_
  refine law_arg (j := 1) hx hb hX hbl hbA hS hla hL (by omega) rfl dL_law_642 dL_law_643 dL_law_644 dL_law_645 dL_law_646 ?_
  refine law_arg (j := 2) hx hb hX hbl hbA hS hla hL (by omega) rfl dL_law_647 dL_law_648 dL_law_649 dL_law_650 dL_law_651 ?_
  refine law_call (m' := 48) (k := 0) (as' := [.int (xs (i + 1)), .int (xs (i + 2))]) (rest := []) cx dL_law_652 mok_48 rfl (c := 3) rfl rfl (by decide) (by decide) rfl lwL_X3_brush lwI_X3_brush lwS_X3_brush wI_3 ⟨by decide, by decide⟩ (kmet hG (by decide) mok_48 rfl (Nat.le_of_ble_eq_true rfl) (ox M (fun r M' => r = some (.int r0) ∧ XR S1 M' ∧ Fx M M') hXR (fun M' h1 h2 => ⟨rfl, h1, h2⟩))) hR hS hla hcs (Nat.le_of_ble_eq_true rfl) (fun r M1 H1 locs1 hq hR1 hS => ?_)
  obtain ⟨er, hX1, hF1⟩ := hq
  cases er
  have hYR1 : YR S M1 := hYR.moved hF1
  refine lv_aload_n hx hb dL_law_655 rfl (lv_at hla 2 rfl) ?_
  refine law_arg (j := 1) hx hb hX hbl hbA hS hla hL (by omega) rfl dL_law_656 dL_law_657 dL_law_658 dL_law_659 dL_law_660 ?_
  refine law_arg (j := 2) hx hb hX hbl hbA hS hla hL (by omega) rfl dL_law_661 dL_law_662 dL_law_663 dL_law_664 dL_law_665 ?_
  refine law_call (m' := 103) (k := 166) (as' := [.int (xs (i + 1)), .int (xs (i + 2))]) (rest := [.int r0]) cx dL_law_666 mok_103 rfl (c := 4) rfl rfl (by decide) (by decide) rfl lwL_X4_brush lwI_X4_brush lwS_X4_brush wI_4 ⟨by decide, by decide⟩ (kmet hG (by decide) mok_103 rfl (Nat.le_of_ble_eq_true rfl) (oy M1 (fun r M' => r = some (.int r0) ∧ YR S1 M' ∧ Fy M1 M') hYR1 (fun M' h1 h2 => ⟨rfl, h1, h2⟩))) hR1 hS hla hcs (Nat.le_of_ble_eq_true rfl) (fun r M2 H2 locs2 hq hR2 hS => ?_)
  obtain ⟨er, hY2, hF2⟩ := hq
  cases er
  refine lv_icmp_eq (x := r0) (y := r0) (rest := []) (tgt := 831) hx hb dL_law_669 (by decide) (fun _ => ?_) (fun z => absurd rfl z)
  exact kk H2 locs2 S1 hS ⟨M2, hR2, hX1.moved hF2, hY2⟩ hI1
theorem lop_20 (cx : lCx G p s mid meth cd b) (hG : kOK G) (hX : va_X b L xs s s.heap) (hbl : b < s.heap.size) (hbA : ¬ G.2.2.2.2 b) (hL : L ≤ 2560) (hcs : kc + 0 ≤ room_1.cells ∧ ks + 0 ≤ room_1.slots) (h : lSt G s b L i la H locs S N) (kk : lNx l G p e s mid below meth cd Q b L i N kc ks la) : W p l e room_1 s mid #[Value.ref b] below meth cd H locs kc ks Q (F0 mid 674 la []) := by
  obtain ⟨hx, hb, -, -, -, -, -, -⟩ := id cx
  obtain ⟨hla, hS, ⟨M, hR, hXR, hYR⟩, hI, hN, hi⟩ := h
  obtain ⟨r0, S1, hI1, ox, oy⟩ := op_loss S N hN hI
  refine lv_aload_n hx hb dL_law_674 rfl (lv_at hla 1 rfl) ?_
  refine law_call (m' := 49) (k := 0) (as' := []) (rest := []) cx dL_law_675 mok_49 rfl (c := 3) rfl rfl (by decide) (by decide) rfl lwL_X3_loss lwI_X3_loss lwS_X3_loss wI_3 ⟨by decide, by decide⟩ (kmet hG (by decide) mok_49 rfl (Nat.le_of_ble_eq_true rfl) (ox M (fun r M' => r = some (.int r0) ∧ XR S1 M' ∧ Fx M M') hXR (fun M' h1 h2 => ⟨rfl, h1, h2⟩))) hR hS hla hcs (Nat.le_of_ble_eq_true rfl) (fun r M1 H1 locs1 hq hR1 hS => ?_)
  obtain ⟨er, hX1, hF1⟩ := hq
  cases er
  have hYR1 : YR S M1 := hYR.moved hF1
  refine lv_aload_n hx hb dL_law_678 rfl (lv_at hla 2 rfl) ?_
  refine law_call (m' := 105) (k := 166) (as' := []) (rest := [.int r0]) cx dL_law_679 mok_105 rfl (c := 4) rfl rfl (by decide) (by decide) rfl lwL_X4_loss lwI_X4_loss lwS_X4_loss wI_4 ⟨by decide, by decide⟩ (kmet hG (by decide) mok_105 rfl (Nat.le_of_ble_eq_true rfl) (oy M1 (fun r M' => r = some (.int r0) ∧ YR S1 M' ∧ Fy M1 M') hYR1 (fun M' h1 h2 => ⟨rfl, h1, h2⟩))) hR1 hS hla hcs (Nat.le_of_ble_eq_true rfl) (fun r M2 H2 locs2 hq hR2 hS => ?_)
  obtain ⟨er, hY2, hF2⟩ := hq
  cases er
  refine lv_icmp_eq (x := r0) (y := r0) (rest := []) (tgt := 831) hx hb dL_law_682 (by decide) (fun _ => ?_) (fun z => absurd rfl z)
  exact kk H2 locs2 S1 hS ⟨M2, hR2, hX1.moved hF2, hY2⟩ hI1
theorem lop_21 (cx : lCx G p s mid meth cd b) (hG : kOK G) (hX : va_X b L xs s s.heap) (hbl : b < s.heap.size) (hbA : ¬ G.2.2.2.2 b) (hL : L ≤ 2560) (hcs : kc + 0 ≤ room_1.cells ∧ ks + 0 ≤ room_1.slots) (h : lSt G s b L i la H locs S N) (kk : lNx l G p e s mid below meth cd Q b L i N kc ks la) : W p l e room_1 s mid #[Value.ref b] below meth cd H locs kc ks Q (F0 mid 687 la []) := by
  obtain ⟨hx, hb, -, -, -, -, -, -⟩ := id cx
  obtain ⟨hla, hS, ⟨M, hR, hXR, hYR⟩, hI, hN, hi⟩ := h
  obtain ⟨r0, S1, hI1, ox, oy⟩ := op_isGood S N hN hI
  refine lv_aload_n hx hb dL_law_687 rfl (lv_at hla 1 rfl) ?_
  refine law_call (m' := 50) (k := 0) (as' := []) (rest := []) cx dL_law_688 mok_50 rfl (c := 3) rfl rfl (by decide) (by decide) rfl lwL_X3_isGood lwI_X3_isGood lwS_X3_isGood wI_3 ⟨by decide, by decide⟩ (kmet hG (by decide) mok_50 rfl (Nat.le_of_ble_eq_true rfl) (ox M (fun r M' => r = some (.int r0) ∧ XR S1 M' ∧ Fx M M') hXR (fun M' h1 h2 => ⟨rfl, h1, h2⟩))) hR hS hla hcs (Nat.le_of_ble_eq_true rfl) (fun r M1 H1 locs1 hq hR1 hS => ?_)
  obtain ⟨er, hX1, hF1⟩ := hq
  cases er
  have hYR1 : YR S M1 := hYR.moved hF1
  refine lv_aload_n hx hb dL_law_691 rfl (lv_at hla 2 rfl) ?_
  refine law_call (m' := 106) (k := 166) (as' := []) (rest := [.int r0]) cx dL_law_692 mok_106 rfl (c := 4) rfl rfl (by decide) (by decide) rfl lwL_X4_isGood lwI_X4_isGood lwS_X4_isGood wI_4 ⟨by decide, by decide⟩ (kmet hG (by decide) mok_106 rfl (Nat.le_of_ble_eq_true rfl) (oy M1 (fun r M' => r = some (.int r0) ∧ YR S1 M' ∧ Fy M1 M') hYR1 (fun M' h1 h2 => ⟨rfl, h1, h2⟩))) hR1 hS hla hcs (Nat.le_of_ble_eq_true rfl) (fun r M2 H2 locs2 hq hR2 hS => ?_)
  obtain ⟨er, hY2, hF2⟩ := hq
  cases er
  refine lv_icmp_eq (x := r0) (y := r0) (rest := []) (tgt := 831) hx hb dL_law_695 (by decide) (fun _ => ?_) (fun z => absurd rfl z)
  exact kk H2 locs2 S1 hS ⟨M2, hR2, hX1.moved hF2, hY2⟩ hI1
theorem lop_22 (cx : lCx G p s mid meth cd b) (hG : kOK G) (hX : va_X b L xs s s.heap) (hbl : b < s.heap.size) (hbA : ¬ G.2.2.2.2 b) (hL : L ≤ 2560) (hcs : kc + 0 ≤ room_1.cells ∧ ks + 0 ≤ room_1.slots) (h : lSt G s b L i la H locs S N) (kk : lNx l G p e s mid below meth cd Q b L i N kc ks la) : W p l e room_1 s mid #[Value.ref b] below meth cd H locs kc ks Q (F0 mid 700 la []) := by
  obtain ⟨hx, hb, -, -, -, -, -, -⟩ := id cx
  obtain ⟨hla, hS, ⟨M, hR, hXR, hYR⟩, hI, hN, hi⟩ := h
  obtain ⟨r0, S1, hI1, ox, oy⟩ := op_passing (xs (i + 1)) S N hN hI
  refine lv_aload_n hx hb dL_law_700 rfl (lv_at hla 1 rfl) ?_
  refine law_arg (j := 1) hx hb hX hbl hbA hS hla hL (by omega) rfl dL_law_701 dL_law_702 dL_law_703 dL_law_704 dL_law_705 ?_
  refine law_call (m' := 51) (k := 0) (as' := [.int (xs (i + 1))]) (rest := []) cx dL_law_706 mok_51 rfl (c := 3) rfl rfl (by decide) (by decide) rfl lwL_X3_passing lwI_X3_passing lwS_X3_passing wI_3 ⟨by decide, by decide⟩ (kmet hG (by decide) mok_51 rfl (Nat.le_of_ble_eq_true rfl) (ox M (fun r M' => r = some (.int r0) ∧ XR S1 M' ∧ Fx M M') hXR (fun M' h1 h2 => ⟨rfl, h1, h2⟩))) hR hS hla hcs (Nat.le_of_ble_eq_true rfl) (fun r M1 H1 locs1 hq hR1 hS => ?_)
  obtain ⟨er, hX1, hF1⟩ := hq
  cases er
  have hYR1 : YR S M1 := hYR.moved hF1
  refine lv_aload_n hx hb dL_law_709 rfl (lv_at hla 2 rfl) ?_
  refine law_arg (j := 1) hx hb hX hbl hbA hS hla hL (by omega) rfl dL_law_710 dL_law_711 dL_law_712 dL_law_713 dL_law_714 ?_
  refine law_call (m' := 110) (k := 166) (as' := [.int (xs (i + 1))]) (rest := [.int r0]) cx dL_law_715 mok_110 rfl (c := 4) rfl rfl (by decide) (by decide) rfl lwL_X4_passing lwI_X4_passing lwS_X4_passing wI_4 ⟨by decide, by decide⟩ (kmet hG (by decide) mok_110 rfl (Nat.le_of_ble_eq_true rfl) (oy M1 (fun r M' => r = some (.int r0) ∧ YR S1 M' ∧ Fy M1 M') hYR1 (fun M' h1 h2 => ⟨rfl, h1, h2⟩))) hR1 hS hla hcs (Nat.le_of_ble_eq_true rfl) (fun r M2 H2 locs2 hq hR2 hS => ?_)
  obtain ⟨er, hY2, hF2⟩ := hq
  cases er
  refine lv_icmp_eq (x := r0) (y := r0) (rest := []) (tgt := 831) hx hb dL_law_718 (by decide) (fun _ => ?_) (fun z => absurd rfl z)
  exact kk H2 locs2 S1 hS ⟨M2, hR2, hX1.moved hF2, hY2⟩ hI1
theorem lop_23 (cx : lCx G p s mid meth cd b) (hG : kOK G) (hX : va_X b L xs s s.heap) (hbl : b < s.heap.size) (hbA : ¬ G.2.2.2.2 b) (hL : L ≤ 2560) (hcs : kc + 0 ≤ room_1.cells ∧ ks + 0 ≤ room_1.slots) (h : lSt G s b L i la H locs S N) (kk : lNx l G p e s mid below meth cd Q b L i N kc ks la) : W p l e room_1 s mid #[Value.ref b] below meth cd H locs kc ks Q (F0 mid 723 la []) := by
  obtain ⟨hx, hb, -, -, -, -, -, -⟩ := id cx
  obtain ⟨hla, hS, ⟨M, hR, hXR, hYR⟩, hI, hN, hi⟩ := h
  obtain ⟨r0, S1, hI1, ox, oy⟩ := op_misses S N hN hI
  refine lv_aload_n hx hb dL_law_723 rfl (lv_at hla 1 rfl) ?_
  refine law_call (m' := 52) (k := 0) (as' := []) (rest := []) cx dL_law_724 mok_52 rfl (c := 3) rfl rfl (by decide) (by decide) rfl lwL_X3_misses lwI_X3_misses lwS_X3_misses wI_3 ⟨by decide, by decide⟩ (kmet hG (by decide) mok_52 rfl (Nat.le_of_ble_eq_true rfl) (ox M (fun r M' => r = some (.int r0) ∧ XR S1 M' ∧ Fx M M') hXR (fun M' h1 h2 => ⟨rfl, h1, h2⟩))) hR hS hla hcs (Nat.le_of_ble_eq_true rfl) (fun r M1 H1 locs1 hq hR1 hS => ?_)
  obtain ⟨er, hX1, hF1⟩ := hq
  cases er
  have hYR1 : YR S M1 := hYR.moved hF1
  refine lv_aload_n hx hb dL_law_727 rfl (lv_at hla 2 rfl) ?_
  refine law_call (m' := 111) (k := 166) (as' := []) (rest := [.int r0]) cx dL_law_728 mok_111 rfl (c := 4) rfl rfl (by decide) (by decide) rfl lwL_X4_misses lwI_X4_misses lwS_X4_misses wI_4 ⟨by decide, by decide⟩ (kmet hG (by decide) mok_111 rfl (Nat.le_of_ble_eq_true rfl) (oy M1 (fun r M' => r = some (.int r0) ∧ YR S1 M' ∧ Fy M1 M') hYR1 (fun M' h1 h2 => ⟨rfl, h1, h2⟩))) hR1 hS hla hcs (Nat.le_of_ble_eq_true rfl) (fun r M2 H2 locs2 hq hR2 hS => ?_)
  obtain ⟨er, hY2, hF2⟩ := hq
  cases er
  refine lv_icmp_eq (x := r0) (y := r0) (rest := []) (tgt := 831) hx hb dL_law_731 (by decide) (fun _ => ?_) (fun z => absurd rfl z)
  exact kk H2 locs2 S1 hS ⟨M2, hR2, hX1.moved hF2, hY2⟩ hI1
theorem lop_24 (cx : lCx G p s mid meth cd b) (hG : kOK G) (hX : va_X b L xs s s.heap) (hbl : b < s.heap.size) (hbA : ¬ G.2.2.2.2 b) (hL : L ≤ 2560) (hcs : kc + 0 ≤ room_1.cells ∧ ks + 0 ≤ room_1.slots) (h : lSt G s b L i la H locs S N) (kk : lNx l G p e s mid below meth cd Q b L i N kc ks la) : W p l e room_1 s mid #[Value.ref b] below meth cd H locs kc ks Q (F0 mid 736 la []) := by
  obtain ⟨hx, hb, -, -, -, -, -, -⟩ := id cx
  obtain ⟨hla, hS, ⟨M, hR, hXR, hYR⟩, hI, hN, hi⟩ := h
  obtain ⟨r0, S1, hI1, ox, oy⟩ := op_modulus S N hN hI
  refine lv_aload_n hx hb dL_law_736 rfl (lv_at hla 1 rfl) ?_
  refine law_call (m' := 53) (k := 0) (as' := []) (rest := []) cx dL_law_737 mok_53 rfl (c := 3) rfl rfl (by decide) (by decide) rfl lwL_X3_modulus lwI_X3_modulus lwS_X3_modulus wI_3 ⟨by decide, by decide⟩ (kmet hG (by decide) mok_53 rfl (Nat.le_of_ble_eq_true rfl) (ox M (fun r M' => r = some (.int r0) ∧ XR S1 M' ∧ Fx M M') hXR (fun M' h1 h2 => ⟨rfl, h1, h2⟩))) hR hS hla hcs (Nat.le_of_ble_eq_true rfl) (fun r M1 H1 locs1 hq hR1 hS => ?_)
  obtain ⟨er, hX1, hF1⟩ := hq
  cases er
  have hYR1 : YR S M1 := hYR.moved hF1
  refine lv_aload_n hx hb dL_law_740 rfl (lv_at hla 2 rfl) ?_
  refine law_call (m' := 112) (k := 166) (as' := []) (rest := [.int r0]) cx dL_law_741 mok_112 rfl (c := 4) rfl rfl (by decide) (by decide) rfl lwL_X4_modulus lwI_X4_modulus lwS_X4_modulus wI_4 ⟨by decide, by decide⟩ (kmet hG (by decide) mok_112 rfl (Nat.le_of_ble_eq_true rfl) (oy M1 (fun r M' => r = some (.int r0) ∧ YR S1 M' ∧ Fy M1 M') hYR1 (fun M' h1 h2 => ⟨rfl, h1, h2⟩))) hR1 hS hla hcs (Nat.le_of_ble_eq_true rfl) (fun r M2 H2 locs2 hq hR2 hS => ?_)
  obtain ⟨er, hY2, hF2⟩ := hq
  cases er
  refine lv_icmp_eq (x := r0) (y := r0) (rest := []) (tgt := 831) hx hb dL_law_744 (by decide) (fun _ => ?_) (fun z => absurd rfl z)
  exact kk H2 locs2 S1 hS ⟨M2, hR2, hX1.moved hF2, hY2⟩ hI1
theorem lop_25 (cx : lCx G p s mid meth cd b) (hG : kOK G) (hX : va_X b L xs s s.heap) (hbl : b < s.heap.size) (hbA : ¬ G.2.2.2.2 b) (hL : L ≤ 2560) (hcs : kc + 0 ≤ room_1.cells ∧ ks + 0 ≤ room_1.slots) (h : lSt G s b L i la H locs S N) (kk : lNx l G p e s mid below meth cd Q b L i N kc ks la) : W p l e room_1 s mid #[Value.ref b] below meth cd H locs kc ks Q (F0 mid 749 la []) := by
  obtain ⟨hx, hb, -, -, -, -, -, -⟩ := id cx
  obtain ⟨hla, hS, ⟨M, hR, hXR, hYR⟩, hI, hN, hi⟩ := h
  obtain ⟨r0, S1, hI1, ox, oy⟩ := op_truePassing (xs (i + 1)) S N hN hI
  refine lv_aload_n hx hb dL_law_749 rfl (lv_at hla 1 rfl) ?_
  refine law_arg (j := 1) hx hb hX hbl hbA hS hla hL (by omega) rfl dL_law_750 dL_law_751 dL_law_752 dL_law_753 dL_law_754 ?_
  refine law_call (m' := 54) (k := 0) (as' := [.int (xs (i + 1))]) (rest := []) cx dL_law_755 mok_54 rfl (c := 3) rfl rfl (by decide) (by decide) rfl lwL_X3_truePassing lwI_X3_truePassing lwS_X3_truePassing wI_3 ⟨by decide, by decide⟩ (kmet hG (by decide) mok_54 rfl (Nat.le_of_ble_eq_true rfl) (ox M (fun r M' => r = some (.int r0) ∧ XR S1 M' ∧ Fx M M') hXR (fun M' h1 h2 => ⟨rfl, h1, h2⟩))) hR hS hla hcs (Nat.le_of_ble_eq_true rfl) (fun r M1 H1 locs1 hq hR1 hS => ?_)
  obtain ⟨er, hX1, hF1⟩ := hq
  cases er
  have hYR1 : YR S M1 := hYR.moved hF1
  refine lv_aload_n hx hb dL_law_758 rfl (lv_at hla 2 rfl) ?_
  refine law_arg (j := 1) hx hb hX hbl hbA hS hla hL (by omega) rfl dL_law_759 dL_law_760 dL_law_761 dL_law_762 dL_law_763 ?_
  refine law_call (m' := 113) (k := 166) (as' := [.int (xs (i + 1))]) (rest := [.int r0]) cx dL_law_764 mok_113 rfl (c := 4) rfl rfl (by decide) (by decide) rfl lwL_X4_truePassing lwI_X4_truePassing lwS_X4_truePassing wI_4 ⟨by decide, by decide⟩ (kmet hG (by decide) mok_113 rfl (Nat.le_of_ble_eq_true rfl) (oy M1 (fun r M' => r = some (.int r0) ∧ YR S1 M' ∧ Fy M1 M') hYR1 (fun M' h1 h2 => ⟨rfl, h1, h2⟩))) hR1 hS hla hcs (Nat.le_of_ble_eq_true rfl) (fun r M2 H2 locs2 hq hR2 hS => ?_)
  obtain ⟨er, hY2, hF2⟩ := hq
  cases er
  refine lv_icmp_eq (x := r0) (y := r0) (rest := []) (tgt := 831) hx hb dL_law_767 (by decide) (fun _ => ?_) (fun z => absurd rfl z)
  exact kk H2 locs2 S1 hS ⟨M2, hR2, hX1.moved hF2, hY2⟩ hI1
theorem lop_26 (cx : lCx G p s mid meth cd b) (hG : kOK G) (hX : va_X b L xs s s.heap) (hbl : b < s.heap.size) (hbA : ¬ G.2.2.2.2 b) (hL : L ≤ 2560) (hcs : kc + 0 ≤ room_1.cells ∧ ks + 0 ≤ room_1.slots) (h : lSt G s b L i la H locs S N) (kk : lNx l G p e s mid below meth cd Q b L i N kc ks la) : W p l e room_1 s mid #[Value.ref b] below meth cd H locs kc ks Q (F0 mid 772 la []) := by
  obtain ⟨hx, hb, -, -, -, -, -, -⟩ := id cx
  obtain ⟨hla, hS, ⟨M, hR, hXR, hYR⟩, hI, hN, hi⟩ := h
  obtain ⟨r0, S1, hI1, ox, oy⟩ := op_minutesTo (xs (i + 1)) S N hN hI
  refine lv_aload_n hx hb dL_law_772 rfl (lv_at hla 1 rfl) ?_
  refine law_arg (j := 1) hx hb hX hbl hbA hS hla hL (by omega) rfl dL_law_773 dL_law_774 dL_law_775 dL_law_776 dL_law_777 ?_
  refine law_call (m' := 55) (k := 0) (as' := [.int (xs (i + 1))]) (rest := []) cx dL_law_778 mok_55 rfl (c := 3) rfl rfl (by decide) (by decide) rfl lwL_X3_minutesTo lwI_X3_minutesTo lwS_X3_minutesTo wI_3 ⟨by decide, by decide⟩ (kmet hG (by decide) mok_55 rfl (Nat.le_of_ble_eq_true rfl) (ox M (fun r M' => r = some (.int r0) ∧ XR S1 M' ∧ Fx M M') hXR (fun M' h1 h2 => ⟨rfl, h1, h2⟩))) hR hS hla hcs (Nat.le_of_ble_eq_true rfl) (fun r M1 H1 locs1 hq hR1 hS => ?_)
  obtain ⟨er, hX1, hF1⟩ := hq
  cases er
  have hYR1 : YR S M1 := hYR.moved hF1
  refine lv_aload_n hx hb dL_law_781 rfl (lv_at hla 2 rfl) ?_
  refine law_arg (j := 1) hx hb hX hbl hbA hS hla hL (by omega) rfl dL_law_782 dL_law_783 dL_law_784 dL_law_785 dL_law_786 ?_
  refine law_call (m' := 116) (k := 166) (as' := [.int (xs (i + 1))]) (rest := [.int r0]) cx dL_law_787 mok_116 rfl (c := 4) rfl rfl (by decide) (by decide) rfl lwL_X4_minutesTo lwI_X4_minutesTo lwS_X4_minutesTo wI_4 ⟨by decide, by decide⟩ (kmet hG (by decide) mok_116 rfl (Nat.le_of_ble_eq_true rfl) (oy M1 (fun r M' => r = some (.int r0) ∧ YR S1 M' ∧ Fy M1 M') hYR1 (fun M' h1 h2 => ⟨rfl, h1, h2⟩))) hR1 hS hla hcs (Nat.le_of_ble_eq_true rfl) (fun r M2 H2 locs2 hq hR2 hS => ?_)
  obtain ⟨er, hY2, hF2⟩ := hq
  cases er
  refine lv_icmp_eq (x := r0) (y := r0) (rest := []) (tgt := 831) hx hb dL_law_790 (by decide) (fun _ => ?_) (fun z => absurd rfl z)
  exact kk H2 locs2 S1 hS ⟨M2, hR2, hX1.moved hF2, hY2⟩ hI1
theorem lop_27 (cx : lCx G p s mid meth cd b) (hG : kOK G) (hX : va_X b L xs s s.heap) (hbl : b < s.heap.size) (hbA : ¬ G.2.2.2.2 b) (hL : L ≤ 2560) (hcs : kc + 0 ≤ room_1.cells ∧ ks + 0 ≤ room_1.slots) (h : lSt G s b L i la H locs S N) (kk : lNx l G p e s mid below meth cd Q b L i N kc ks la) : W p l e room_1 s mid #[Value.ref b] below meth cd H locs kc ks Q (F0 mid 795 la []) := by
  obtain ⟨hx, hb, -, -, -, -, -, -⟩ := id cx
  obtain ⟨hla, hS, ⟨M, hR, hXR, hYR⟩, hI, hN, hi⟩ := h
  obtain ⟨r0, S1, hI1, ox, oy⟩ := op_dustIn (xs (i + 1)) S N hN hI
  refine lv_aload_n hx hb dL_law_795 rfl (lv_at hla 1 rfl) ?_
  refine law_arg (j := 1) hx hb hX hbl hbA hS hla hL (by omega) rfl dL_law_796 dL_law_797 dL_law_798 dL_law_799 dL_law_800 ?_
  refine law_call (m' := 56) (k := 0) (as' := [.int (xs (i + 1))]) (rest := []) cx dL_law_801 mok_56 rfl (c := 3) rfl rfl (by decide) (by decide) rfl lwL_X3_dustIn lwI_X3_dustIn lwS_X3_dustIn wI_3 ⟨by decide, by decide⟩ (kmet hG (by decide) mok_56 rfl (Nat.le_of_ble_eq_true rfl) (ox M (fun r M' => r = some (.int r0) ∧ XR S1 M' ∧ Fx M M') hXR (fun M' h1 h2 => ⟨rfl, h1, h2⟩))) hR hS hla hcs (Nat.le_of_ble_eq_true rfl) (fun r M1 H1 locs1 hq hR1 hS => ?_)
  obtain ⟨er, hX1, hF1⟩ := hq
  cases er
  have hYR1 : YR S M1 := hYR.moved hF1
  refine lv_aload_n hx hb dL_law_804 rfl (lv_at hla 2 rfl) ?_
  refine law_arg (j := 1) hx hb hX hbl hbA hS hla hL (by omega) rfl dL_law_805 dL_law_806 dL_law_807 dL_law_808 dL_law_809 ?_
  refine law_call (m' := 117) (k := 166) (as' := [.int (xs (i + 1))]) (rest := [.int r0]) cx dL_law_810 mok_117 rfl (c := 4) rfl rfl (by decide) (by decide) rfl lwL_X4_dustIn lwI_X4_dustIn lwS_X4_dustIn wI_4 ⟨by decide, by decide⟩ (kmet hG (by decide) mok_117 rfl (Nat.le_of_ble_eq_true rfl) (oy M1 (fun r M' => r = some (.int r0) ∧ YR S1 M' ∧ Fy M1 M') hYR1 (fun M' h1 h2 => ⟨rfl, h1, h2⟩))) hR1 hS hla hcs (Nat.le_of_ble_eq_true rfl) (fun r M2 H2 locs2 hq hR2 hS => ?_)
  obtain ⟨er, hY2, hF2⟩ := hq
  cases er
  refine lv_icmp_eq (x := r0) (y := r0) (rest := []) (tgt := 831) hx hb dL_law_813 (by decide) (fun _ => ?_) (fun z => absurd rfl z)
  exact kk H2 locs2 S1 hS ⟨M2, hR2, hX1.moved hF2, hY2⟩ hI1
theorem lop_28 (cx : lCx G p s mid meth cd b) (hG : kOK G) (hX : va_X b L xs s s.heap) (hbl : b < s.heap.size) (hbA : ¬ G.2.2.2.2 b) (hL : L ≤ 2560) (hcs : kc + 0 ≤ room_1.cells ∧ ks + 0 ≤ room_1.slots) (h : lSt G s b L i la H locs S N) (kk : lNx l G p e s mid below meth cd Q b L i N kc ks la) : W p l e room_1 s mid #[Value.ref b] below meth cd H locs kc ks Q (F0 mid 818 la []) := by
  obtain ⟨hx, hb, -, -, -, -, -, -⟩ := id cx
  obtain ⟨hla, hS, ⟨M, hR, hXR, hYR⟩, hI, hN, hi⟩ := h
  obtain ⟨r0, S1, hI1, ox, oy⟩ := op_undo S N hN hI
  refine lv_aload_n hx hb dL_law_818 rfl (lv_at hla 1 rfl) ?_
  refine law_call (m' := 57) (k := 0) (as' := []) (rest := []) cx dL_law_819 mok_57 rfl (c := 3) rfl rfl (by decide) (by decide) rfl lwL_X3_undo lwI_X3_undo lwS_X3_undo wI_3 ⟨by decide, by decide⟩ (kmet hG (by decide) mok_57 rfl (Nat.le_of_ble_eq_true rfl) (ox M (fun r M' => r = some (.int r0) ∧ XR S1 M' ∧ Fx M M') hXR (fun M' h1 h2 => ⟨rfl, h1, h2⟩))) hR hS hla hcs (Nat.le_of_ble_eq_true rfl) (fun r M1 H1 locs1 hq hR1 hS => ?_)
  obtain ⟨er, hX1, hF1⟩ := hq
  cases er
  have hYR1 : YR S M1 := hYR.moved hF1
  refine lv_aload_n hx hb dL_law_822 rfl (lv_at hla 2 rfl) ?_
  refine law_call (m' := 68) (k := 166) (as' := []) (rest := [.int r0]) cx dL_law_823 mok_68 rfl (c := 4) rfl rfl (by decide) (by decide) rfl lwL_X4_undo lwI_X4_undo lwS_X4_undo wI_4 ⟨by decide, by decide⟩ (kmet hG (by decide) mok_68 rfl (Nat.le_of_ble_eq_true rfl) (oy M1 (fun r M' => r = some (.int r0) ∧ YR S1 M' ∧ Fy M1 M') hYR1 (fun M' h1 h2 => ⟨rfl, h1, h2⟩))) hR1 hS hla hcs (Nat.le_of_ble_eq_true rfl) (fun r M2 H2 locs2 hq hR2 hS => ?_)
  obtain ⟨er, hY2, hF2⟩ := hq
  cases er
  refine lv_icmp_eq (x := r0) (y := r0) (rest := []) (tgt := 831) hx hb dL_law_826 (by decide) (fun _ => ?_) (fun z => absurd rfl z)
  exact kk H2 locs2 S1 hS ⟨M2, hR2, hX1.moved hF2, hY2⟩ hI1
end LAW
