/-! calls, ends, and the whole -/
def kQ (G : KG) (m : Nat) (Q : Option Value → KMem → Prop) : Array Value → State → Outcome → State → Prop :=
  if krc m = 0 then va_Qv (fun u : KMem => Q none u) (fun u t => kRep G u t.heap) G.2.2.2.2
  else if krc m = 3 then va_Ql (fun (r : Int64) (u : KMem) => Q (some (.long r)) u) (fun u t => kRep G u t.heap) G.2.2.2.2
  else va_Qi (fun (r : Int32) (u : KMem) => Q (some (.int r)) u) (fun u t => kRep G u t.heap) G.2.2.2.2
def kPc (G : KG) (as : List Value) (M : KMem) : Array Value → State → Prop := va_Pc (as.map (conc G.1)) (fun U => kRep G M U.heap ∧ kK G U)
def kMet (l : Launch) (G : KG) (m : Nat) (as : List Value) (M : KMem) (Q : Option Value → KMem → Prop) : Prop :=
  Met l (ky m) (kws m) (krm m) (kPc G as M) (kQ G m Q) 0 0 G.2.2.2.2
theorem kPc_blind {G : KG} {as : List Value} {M : KMem} : FrameBlind (kPc G as M) := fun a U g mk q => by
  obtain ⟨h1, h2, h3, h4⟩ := q
  exact ⟨h1, h2, va_K.moved (u := U) (U := U.calling g mk a) (Vm.Alike.refl U.vm) h3, fun w hw => va_Nw.same (u := U) (U := U.calling g mk a) rfl rfl (h4 w hw)⟩
/-- what the tables say of a method -/
def kMok (m : Nat) : Prop := Cond.code (ky m) (kcode m) (kml m) (kretT m) ∈ kgT ∧ Cond.initialized (ky m).cls ∈ kgT ∧ ((ky m).cls ≠ "java/lang/invoke/MethodHandle" ∧ (ky m).cls ≠ "java/lang/invoke/VarHandle" ∧ (parseMethodDescriptor (ky m).desc).map (fun d => d.parameters.length) = some (knar_ m)) ∧ plainName (ky m).cls = true
def kCallS (l : Launch) (G : KG) (m pc m' n nx : Nat) : Prop := kOK G → ∀ (p : Program) (e : Env) (s : State) (mid : MethodId) (args : Array Value) (below : List Frame) (meth : Method) (cd : Code) (Q : State → Prop) (kc ks : Nat), kc ≤ kcl m → ks ≤ ksl m → kCx G m p s mid meth cd args →
  ∀ (as rest ls : List Value) (M : KMem) (Q' : Option Value → KMem → Prop), as.length = n → kcall m' as rest = true → kMet l G m' as M Q' → ∀ (H : Heap) (locs : List Loc) (la : Array Slot), kRep G M H → va_S G.2.2.2.2 s.heap H locs → kL G (kml m) ls la →
  (∀ (r : Option Value) (M' : KMem) (H' : Heap) (locs' : List Loc), Q' r M' → kRep G M' H' → va_S G.2.2.2.2 s.heap H' locs' → W p l e (krm m) s mid args below meth cd H' locs' kc ks Q (F0 mid nx la ((r.toList ++ rest).map (conc G.1)))) →
  W p l e (krm m) s mid args below meth cd H locs kc ks Q (F0 mid pc la ((as.reverse ++ rest).map (conc G.1)))
section KCALL
variable {l : Launch} {G : KG} {m m' pc : Nat} {p : Program} {e : Env} {s : State} {mid : MethodId} {args : Array Value} {below : List Frame} {meth : Method} {cd : Code} {Q : State → Prop} {kc ks : Nat}
/-- behind a run of the callee -/
theorem kback {rest : List Value} {Q' : Option Value → KMem → Prop} {H : Heap} {locs : List Loc} {la : Array Slot} {a : Array Value} {st0 : List Value} {nx : Nat} (hnx : nx = pc + 3)
    (hr : va_Run p l e (krm m) s mid args below meth cd H locs kc ks 0 0 (F0 mid pc la st0) (rest.map (conc G.1)) (kQ G m' Q' a) G.2.2.2.2) (hS : va_S G.2.2.2.2 s.heap H locs)
    (kk : ∀ (r : Option Value) (M' : KMem) (H' : Heap) (locs' : List Loc), Q' r M' → kRep G M' H' → va_S G.2.2.2.2 s.heap H' locs' → W p l e (krm m) s mid args below meth cd H' locs' kc ks Q (F0 mid nx la ((r.toList ++ rest).map (conc G.1)))) :
    W p l e (krm m) s mid args below meth cd H locs kc ks Q (F0 mid pc la st0) := by
  subst hnx
  unfold kQ at hr
  by_cases hc : krc m' = 0
  · rw [if_pos hc] at hr
    exact va_callv hr hS (fun q _ h => h) (fun q h => h) (fun u t H1 locs1 ht _ hw hB _ _ hS1 => by
      rw [ht] at hB
      exact kk none u H1 locs1 hw hB hS1)
  · rw [if_neg hc] at hr
    by_cases hc3 : krc m' = 3
    · rw [if_pos hc3] at hr
      exact va_calll hr hS (fun q _ h => h) (fun q h => h) (fun r u t H1 locs1 ht _ hw hB _ _ hS1 => by
        rw [ht] at hB
        exact kk (some (.long r)) u H1 locs1 hw hB hS1)
    rw [if_neg hc3] at hr
    exact va_calli hr hS (fun q _ h => h) (fun q h => h) (fun r u t H1 locs1 ht _ hw hB _ _ hS1 => by
      rw [ht] at hB
      exact kk (some (.int r)) u H1 locs1 hw hB hS1)
theorem kfix (cx : kCx G m p s mid meth cd args) : CallFix p mid cd (kcode m) (kml m) s args kgT (kown m) := ⟨cx.1, cx.2.1, cx.2.2.1, cx.2.2.2.2.1, cx.2.2.2.2.2.1⟩
theorem kgood (h1 : Cond.code (ky m') (kcode m') (kml m') (kretT m') ∈ kgT) : GoodIn kgT (kws m') := by
  intro w hw
  rcases List.mem_cons.mp hw with rfl | hw
  · exact kg_good h1
  · exact kg_good hw
theorem krest {as rest : List Value} (hc : kcall m' as rest = true) (la : Array Slot) (st0 : List Value) : 2 * (F0 mid pc la st0).monitorRoom + ((rest.map (conc G.1)).map fun v => v.category).sum ≤ 8 := by
  have h : kcat rest ≤ 8 := by
    unfold kcall at hc
    simp only [Bool.and_eq_true, decide_eq_true_eq] at hc
    exact hc.1.1.2
  exact lv_room (by rw [kcat_map]; exact h)
end KCALL
theorem kd_obj {G : KG} {k c : Nat} {M : KMem} (h : kd k = c) (hc : c < 5) : (kw G M)[k]? = some (G.1 k, .inr (c, kfs G.1 k (M k))) := by rw [kw_get (kd_lt (by omega)), kentr_obj h hc]
theorem snd_callV {l : Launch} {G : KG} {m pc m' nx n idx c N : Nat} {C : String} {T : u_T} (hd : decode (kcode m) pc = .ok (.invokevirtual idx, 3)) (hnx : nx = pc + 3) (hok : kMok m') (hst : kstat m' = false) (hcl : vwCl[c]? = some (C, T, N)) (hcc : kcls m' = c) (hC : (ky m').cls = C) (hc5 : c < 5) (hn : n = knar_ m' + 1)
    (hl : Cond.methodLink (kown m) idx (ky m') ∈ kgT) (hi : Cond.instanceMethod (ky m') ∈ kgT) (hs : Cond.selects C (ky m') (ky m') ∈ kgT) (hini : Cond.initialized C ∈ kgT) (hf : krf m' + 1 ≤ krf m ∧ 8 + (kml m' + 11) + krl m' ≤ krl m) (hz : kcl m' = 0 ∧ ksl m' = 0) : kCallS l G m pc m' n nx := by
  intro hG p e s mid args below meth cd Q kc ks hkc hks cx as rest ls M Q' hlen hcall hM H locs la hR hS hL kk
  have hrecv : krecv m' as = true := by
    have h := hcall
    unfold kcall at h
    rw [hst] at h
    simp only [Bool.and_eq_true, Bool.false_or] at h
    exact h.1.2
  match as, hlen, hcall, hrecv, hM with
  | .ref k :: as', hlen, hcall, hrecv, hM =>
    have hk : kd k = c := by
      have := Nat.eq_of_beq_eq_true hrecv
      rw [hcc] at this
      exact this
    have hT : GoodIn kgT (wsV (kown m) idx C (ky m') (kws m')) := by
      intro w hw
      unfold wsV at hw
      rcases List.mem_append.mp hw with h | h
      · simp only [List.mem_cons, List.not_mem_nil, or_false] at h
        rcases h with rfl | rfl | rfl | rfl
        · exact kg_good hl
        · exact kg_good hi
        · exact kg_good hs
        · exact kg_good hini
      · exact kgood hok.1 w h
    refine kback (a := ((Value.ref k :: as').map (conc G.1)).toArray) hnx (va_runV (As := as'.map (conc G.1)) (b := G.1 k) (kfix cx) hM (cwV (rm := krm m') (mc := 0) (ms := 0) (knar_ m') cx.2.2.2.2.2.1 hT rfl hz.1 hz.2 ⟨hC, hok.2.2.1.1, hok.2.2.1.2.1, hok.2.2.1.2.2⟩ hf) ⟨kPc_blind, va_recv cx.2.2.2.2.2.2.2.1 hR hcl (kd_obj hk hc5), fun U hU hW => ⟨rfl, by rw [hU]; exact hR, cx.2.2.2.2.2.2.2.warm hW⟩⟩ rfl ?_ hL.2.1 ?_ (krest hcall la _) hd ⟨hkc, hks⟩) hS kk
    · simp only [List.length_cons] at hlen
      rw [List.length_map]
      omega
    · simp [List.map_append, List.map_reverse, conc]
theorem snd_callS {l : Launch} {G : KG} {m pc m' nx n idx : Nat} (hd : decode (kcode m) pc = .ok (.invokestatic idx, 3)) (hnx : nx = pc + 3) (hok : kMok m') (hst : kstat m' = true) (hC : (ky m').cls = kown m) (hn : n = knar_ m')
    (hl : Cond.methodLink (kown m) idx (ky m') ∈ kgT) (hs : Cond.static (ky m') ∈ kgT) (hini : Cond.initialized (kown m) ∈ kgT) (hf : krf m' + 1 ≤ krf m ∧ 8 + (kml m' + 11) + krl m' ≤ krl m) (hz : kcl m' = 0 ∧ ksl m' = 0) : kCallS l G m pc m' n nx := by
  intro hG p e s mid args below meth cd Q kc ks hkc hks cx as rest ls M Q' hlen hcall hM H locs la hR hS hL kk
  have hT : GoodIn kgT (wsS (kown m) idx (ky m') (kws m')) := by
    intro w hw
    unfold wsS at hw
    rcases List.mem_append.mp hw with h | h
    · simp only [List.mem_cons, List.not_mem_nil, or_false] at h
      rcases h with rfl | rfl | rfl
      · exact kg_good hl
      · exact kg_good hs
      · exact kg_good hini
    · exact kgood hok.1 w h
  refine kback (a := (as.map (conc G.1)).toArray) hnx (va_runS (As := as.map (conc G.1)) (kfix cx) hM (cwS (rm := krm m') (mc := 0) (ms := 0) (knar_ m') cx.2.2.2.2.2.1 hT rfl hz.1 hz.2 ⟨hC, hok.2.2.1.1, hok.2.2.1.2.1, hok.2.2.1.2.2⟩ hf) ⟨kPc_blind, fun U hU hW => ⟨rfl, by rw [hU]; exact hR, cx.2.2.2.2.2.2.2.warm hW⟩⟩ rfl ?_ hL.2.1 ?_ (krest hcall la _) hd ⟨hkc, hks⟩) hS kk
  · rw [List.length_map]
    omega
  · simp [List.map_append, List.map_reverse]
theorem snd_callSN {l : Launch} {G : KG} {m pc m' nx n idx : Nat} {host : String} (hd : decode (kcode m) pc = .ok (.invokestatic idx, 3)) (hnx : nx = pc + 3) (hok : kMok m') (hst : kstat m' = true) (hn : n = knar_ m')
    (hl : (kown m, idx, ky m', host) ∈ knestD) (hs : Cond.static (ky m') ∈ kgT) (hf : krf m' + 1 ≤ krf m ∧ 8 + (kml m' + 11) + krl m' ≤ krl m) (hz : kcl m' = 0 ∧ ksl m' = 0) : kCallS l G m pc m' n nx := by
  intro hG p e s mid args below meth cd Q kc ks hkc hks cx as rest ls M Q' hlen hcall hM H locs la hR hS hL kk
  refine kback (a := (as.map (conc G.1)).toArray) hnx (va_runSN (As := as.map (conc G.1)) (kfix cx) hM ⟨va_cnB (rm := krm m') (mc := 0) (ms := 0) (knar_ m') cx.2.2.2.2.2.1 (kgood hok.1) rfl hz.1 hz.2 (cx.2.2.2.2.2.2.2.2 _ hl) (cx.word hok.2.1) hok.2.2.1 hf, cx.word hs, trivial⟩ ⟨kPc_blind, fun U hU hW => ⟨rfl, by rw [hU]; exact hR, cx.2.2.2.2.2.2.2.warm hW⟩⟩ rfl ?_ hL.2.1 ?_ (krest hcall la _) hd ⟨hkc, hks⟩) hS kk
  · rw [List.length_map]
    omega
  · simp [List.map_append, List.map_reverse]
def kRetS (m pc c : Nat) : Prop := krc m = c ∧ ((c = 0 ∧ decode (kcode m) pc = .ok (.return_, 1) ∧ kretT m = none) ∨ (c = 1 ∧ decode (kcode m) pc = .ok (.ireturn, 1) ∧ kretT m = some .int) ∨ (c = 2 ∧ decode (kcode m) pc = .ok (.ireturn, 1) ∧ kretT m = some .boolean) ∨ (c = 3 ∧ decode (kcode m) pc = .ok (.lreturn, 1) ∧ kretT m = some .long))
def kOpOK (l : Launch) (G : KG) (m pc : Nat) (op : KOp) : Prop := match op with
  | .inl g => kSnd l G m pc g
  | .inr (.inl y) => kCallS l G m pc y.1 y.2.1 y.2.2 ∧ y.2.1 = kna y.1 ∧ kMok y.1 ∧ y.1 < klaw
  | .inr (.inr c) => kRetS m pc c
theorem lv_args_mem {vs : List Value} (h : ∀ v ∈ vs, v.category = 1) : ∀ (k i : Nat) (v : Value), vs[i]? = some v → (k + i, v) ∈ lv_args k vs := by
  induction vs with
  | nil => intro k i v hv; simp at hv
  | cons a t ih =>
    intro k i v hv
    cases i with
    | zero =>
      simp only [List.getElem?_cons_zero, Option.some.injEq] at hv
      subst hv
      exact List.mem_cons_self
    | succ i =>
      simp only [List.getElem?_cons_succ] at hv
      refine List.mem_cons_of_mem _ ?_
      rw [if_neg (by rw [h a List.mem_cons_self]; decide)]
      have := ih (fun v hv => h v (List.mem_cons_of_mem _ hv)) (k + 1) i v hv
      rwa [show k + (i + 1) = k + 1 + i from by omega]
theorem lg_sl_len {vs : List Value} (h : ∀ v ∈ vs, v.category = 1) : (lg_sl vs).length = vs.length := by
  unfold lg_sl
  induction vs with
  | nil => rfl
  | cons a t ih =>
    rw [List.flatMap_cons, if_neg (by rw [h a List.mem_cons_self]; decide), List.length_append, ih (fun v hv => h v (List.mem_cons_of_mem _ hv))]
    simp; omega
theorem kentry {G : KG} {m : Nat} {as : List Value} (hcat : as.all kNL = true) (hlen : as.length ≤ kml m) : kL G (kml m) (kent m as) ((lg_sl (as.map (conc G.1)) ++ List.replicate (kml m - (lg_sl (as.map (conc G.1))).length) Slot.unset).toArray) := by
  have hc : ∀ v ∈ as.map (conc G.1), v.category = 1 := by
    intro v hv
    obtain ⟨w, hw, rfl⟩ := List.mem_map.mp hv
    rw [conc_cat]
    exact kNL_cat.mp (List.all_eq_true.mp hcat w hw)
  have hh := lv_entry (as.map (conc G.1)) (n := kml m) (by rw [lg_sl_len hc, List.length_map]; exact hlen)
  refine ⟨by simp [kent]; omega, hh.1, hh.2.1, fun i v hi hv => ?_⟩
  have hlt : i < as.length := by
    rcases Nat.lt_or_ge i as.length with q | q
    · exact q
    · exfalso
      unfold kent at hi
      rw [List.getElem?_append_right q] at hi
      have := List.mem_of_getElem? hi
      exact hv (List.eq_of_mem_replicate this)
  have hi2 : as[i]? = some v := by
    unfold kent at hi
    rwa [List.getElem?_append_left hlt] at hi
  have h3 := lv_args_mem hc 0 i (conc G.1 v) (by rw [List.getElem?_map, hi2]; rfl)
  rw [Nat.zero_add] at h3
  exact hh.2.2 _ h3
/-- from a walk of the body to the contract -/
theorem kmet_of {l : Launch} {G : KG} {m : Nat} {as : List Value} {M : KMem} {Q : Option Value → KMem → Prop} (hok : kMok m) (hcat : as.all kNL = true) (hlen : as.length ≤ kml m)
    (body : ∀ (p : Program) (e : Env) (s : State) (mid : MethodId) (args : Array Value) (below : List Frame) (meth : Method) (cd : Code), kCx G m p s mid meth cd args → ∀ (H : Heap) (locs : List Loc) (la : Array Slot), kRep G M H → va_S G.2.2.2.2 s.heap H locs → kL G (kml m) (kent m as) la →
      W p l e (krm m) s mid args below meth cd H locs 0 0 (MQ below (kQ G m Q) args s 0 0 G.2.2.2.2) (F0 mid 0 la [])) (hown : kown m = (ky m).cls) : kMet l G m as M Q := by
  refine Met.ofW (cc := kcode m) (maxL := kml m) (ret := kretT m) hok.2.2.2 rfl ?_
  intro p e s mid args below meth cd s₁ B hml hv
  obtain ⟨rfl, hR, hK⟩ := hv
  have hts0 := atoms_spec (ws := kws m) B.pre
  have hts : ∀ w ∈ kgT, w.before (as.map (conc G.1)).toArray s = true := fun w hw => hts0 w (List.mem_cons_of_mem _ hw)
  have hfc : s.vm.findClass (kown m) = some mid.cls := by rw [hown]; exact findClass_of_methodNamed B.named
  rw [lg_entry_eq]
  exact body p e s mid _ below meth cd ⟨B.exec, B.bytes, hml, B.returns, hfc, hts, B.notSynchronized, hK⟩ s.heap [] _ hR va_S.rf (kentry hcat hlen)
theorem kret0 {ls st : List Value} {M : KMem} {o : Option Value × KMem} (h : kret 0 ls st M = some o) : st = [] ∧ o = (none, M) := by
  match st, h with
  | [], h => cases h; exact ⟨rfl, rfl⟩
  | _ :: _, h => cases h
theorem kret1 {ls st : List Value} {M : KMem} {o : Option Value × KMem} (h : kret 1 ls st M = some o) : ∃ v, st = [.int v] ∧ o = (some (.int v), M) := by
  match st, h with
  | [], h => cases h
  | [.int v], h => cases h; exact ⟨v, rfl, rfl⟩
  | [.long v], h => cases h
  | [.float v], h => cases h
  | [.double v], h => cases h
  | [.null], h => cases h
  | [.ref v], h => cases h
  | [.retAddr v], h => cases h
  | a :: _ :: _, h => cases a <;> cases h
theorem kret2 {ls st : List Value} {M : KMem} {o : Option Value × KMem} (h : kret 2 ls st M = some o) : ∃ v, st = [.int v] ∧ (v = 0 ∨ v = 1) ∧ o = (some (.int v), M) := by
  match st, h with
  | [], h => cases h
  | [.int v], h =>
    have h : (if v = 0 ∨ v = 1 then some (some (Value.int v), M) else none) = some o := h
    split at h
    · rename_i hv; cases h; exact ⟨v, rfl, hv, rfl⟩
    · cases h
  | [.long v], h => cases h
  | [.float v], h => cases h
  | [.double v], h => cases h
  | [.null], h => cases h
  | [.ref v], h => cases h
  | [.retAddr v], h => cases h
  | a :: _ :: _, h => cases a <;> cases h
theorem kret3 {ls st : List Value} {M : KMem} {o : Option Value × KMem} (h : kret 3 ls st M = some o) : ∃ v, st = [.long v] ∧ o = (some (.long v), M) := by
  match st, h with
  | [], h => cases h
  | [.long v], h => cases h; exact ⟨v, rfl, rfl⟩
  | [.int v], h => cases h
  | [.float v], h => cases h
  | [.double v], h => cases h
  | [.null], h => cases h
  | [.ref v], h => cases h
  | [.retAddr v], h => cases h
  | a :: _ :: _, h => cases a <;> cases h
theorem kbody {l : Launch} {G : KG} (hG : kOK G) (hop : ∀ (m pc : Nat) (op : KOp), m < klaw → kprog m pc = some op → kOpOK l G m pc op) (hown : ∀ m, m < kn → kown m = (ky m).cls) :
    ∀ (f m pc : Nat) (ls st : List Value) (M : KMem) (o : Option Value × KMem), m < klaw → krun f m pc ls st M = some o → ∀ (p : Program) (e : Env) (s : State) (mid : MethodId) (args : Array Value) (below : List Frame) (meth : Method) (cd : Code), kCx G m p s mid meth cd args →
      ∀ (H : Heap) (locs : List Loc) (la : Array Slot), kRep G M H → va_S G.2.2.2.2 s.heap H locs → kL G (kml m) ls la → W p l e (krm m) s mid args below meth cd H locs 0 0 (MQ below (kQ G m (fun r M' => r = o.1 ∧ M' = o.2)) args s 0 0 G.2.2.2.2) (F0 mid pc la (st.map (conc G.1))) := by
  intro f
  induction f with
  | zero => intro m pc ls st M o _ h; simp [krun] at h
  | succ f ih =>
    intro m pc ls st M o hm h p e s mid args below meth cd cx H locs la hR hS hL
    rw [krun] at h
    cases hp : kprog m pc with
    | none => rw [hp] at h; simp at h
    | some op =>
      rw [hp] at h
      have hok := hop m pc op hm hp
      rcases op with g | y | c
      · dsimp only at h
        cases hg : g ls st M with
        | none => rw [hg] at h; simp at h
        | some cc =>
          obtain ⟨pc', ls', st', M'⟩ := cc
          rw [hg] at h
          dsimp only at h
          exact hok hG p e s mid args below meth cd _ 0 0 (Nat.zero_le _) (Nat.zero_le _) cx ls st M pc' ls' st' M' hg H locs la hR hS hL (fun H' locs' la' hR' hS' hL' => ih m pc' ls' st' M' o hm h p e s mid args below meth cd cx H' locs' la' hR' hS' hL')
      · obtain ⟨m', n, nx⟩ := y
        dsimp only at h
        obtain ⟨hcs, hn, hmok, hm'⟩ := hok
        dsimp only at hcs hn hmok hm'
        by_cases hc : kcall m' (st.take n).reverse (st.drop n) = true
        · rw [if_pos hc] at h
          cases hr : krun f m' 0 (kent m' (st.take n).reverse) [] M with
          | none => rw [hr] at h; simp at h
          | some o1 =>
            rw [hr] at h
            dsimp only at h
            have hcc := hc
            unfold kcall at hcc
            simp only [Bool.and_eq_true, decide_eq_true_eq] at hcc
            have hM : kMet l G m' (st.take n).reverse M (fun r M' => r = o1.1 ∧ M' = o1.2) :=
              kmet_of hmok hcc.1.1.1 hcc.2.1 (fun p e s mid args below meth cd cx H locs la hR hS hL => ih m' 0 _ [] M o1 hm' hr p e s mid args below meth cd cx H locs la hR hS hL) (hown m' (Nat.lt_trans hm' (by decide)))
            have hlen : (st.take n).reverse.length = n := by
              rw [Nat.eq_of_beq_eq_true hcc.2.2, hn]
            have hst : st = (st.take n).reverse.reverse ++ st.drop n := by rw [List.reverse_reverse, List.take_append_drop]
            rw [hst]
            refine hcs hG p e s mid args below meth cd _ 0 0 (Nat.zero_le _) (Nat.zero_le _) cx (st.take n).reverse (st.drop n) ls M _ hlen hc hM H locs la hR hS hL (fun r M' H' locs' hq hR' hS' => ?_)
            obtain ⟨rfl, rfl⟩ := hq
            exact ih m nx ls _ o1.2 o hm h p e s mid args below meth cd cx H' locs' la hR' hS' hL
        · rw [if_neg hc] at h
          cases h
      · dsimp only at h
        obtain ⟨hrc, hk⟩ := hok
        have hlocks := cx.2.2.2.2.2.2.1
        rcases hk with ⟨rfl, hd, hrt⟩ | ⟨rfl, hd, hrt⟩ | ⟨rfl, hd, hrt⟩ | ⟨rfl, hd, hrt⟩
        · obtain ⟨rfl, rfl⟩ := kret0 h
          have hr : meth.sig.returnType = none := cx.2.2.2.1.trans hrt
          exact W.vret cx.1 cx.2.1 hr (fun t ht hW => by
            unfold kQ
            rw [if_pos hrc]
            exact ⟨⟨M, rfl, ⟨rfl, rfl⟩, by show kRep G M t.heap; rw [ht]; exact hR⟩, hS.F ht⟩) hS.2.2 hd hlocks
        · obtain ⟨v, rfl, rfl⟩ := kret1 h
          have hr : meth.sig.returnType = some .int := cx.2.2.2.1.trans hrt
          exact W.iret cx.1 cx.2.1 hr (fun t ht hW => by
            unfold kQ
            rw [if_neg (by omega), if_neg (by omega)]
            exact ⟨⟨v, M, rfl, ⟨rfl, rfl⟩, by show kRep G M t.heap; rw [ht]; exact hR⟩, hS.F ht⟩) hS.2.2 hd hlocks
        · obtain ⟨v, rfl, hv, rfl⟩ := kret2 h
          have hr : meth.sig.returnType = some .boolean := cx.2.2.2.1.trans hrt
          exact W.zret cx.1 cx.2.1 hr (by rcases hv with rfl | rfl <;> rfl) (fun t ht hW => by
            unfold kQ
            rw [if_neg (by omega), if_neg (by omega)]
            exact ⟨⟨v, M, rfl, ⟨rfl, rfl⟩, by show kRep G M t.heap; rw [ht]; exact hR⟩, hS.F ht⟩) hS.2.2 hd hlocks
        · obtain ⟨v, rfl, rfl⟩ := kret3 h
          have hr : meth.sig.returnType = some .long := cx.2.2.2.1.trans hrt
          exact W.lret cx.1 cx.2.1 hr (fun t ht hW => by
            unfold kQ
            rw [if_neg (by omega), if_pos hrc]
            exact ⟨⟨v, M, rfl, ⟨rfl, rfl⟩, by show kRep G M t.heap; rw [ht]; exact hR⟩, hS.F ht⟩) hS.2.2 hd hlocks
theorem kret4 {ls st : List Value} {M : KMem} {o : Option Value × KMem} (h : kret 4 ls st M = some o) : ∃ (a b : Int32) (r : List Value), ls = .ref 166 :: .ref 0 :: .int a :: .int b :: r ∧ st = [] ∧ o = (none, mset (mset M 200 0 a) 200 1 b) := by
  have h : kst4 ls st M = some o := h
  unfold kst4 at h
  split at h
  · cases h
    exact ⟨_, _, _, rfl, rfl, rfl⟩
  · cases h
theorem kret5 {ls st : List Value} {M : KMem} {o : Option Value × KMem} (h : kret 5 ls st M = some o) : st = [.int 1] ∧ o = (some (.int 1), M) := by
  have h : kst5 st M = some o := h
  unfold kst5 at h
  split at h
  · rename_i x
    split at h
    · rename_i hx
      cases h
      rw [hx]
      exact ⟨rfl, rfl⟩
    · cases h
  · cases h
/-- what an instruction of the law's own body is -/
def kOpL (l : Launch) (G : KG) (pc : Nat) (op : KOp) : Prop := match op with
  | .inl g => kSnd l G klaw pc g
  | .inr (.inl y) => kCallS l G klaw pc y.1 y.2.1 y.2.2 ∧ y.2.1 = kna y.1 ∧ kMok y.1 ∧ y.1 < klaw
  | .inr (.inr c) => (c = 4 ∧ pc = 410) ∨ (c = 5 ∧ pc = 440)
/-- the law's own frame: from a run of the small machine to one of its two stops -/
theorem klawrun {l : Launch} {G : KG} (hG : kOK G) (hop : ∀ (m pc : Nat) (op : KOp), m < klaw → kprog m pc = some op → kOpOK l G m pc op) (hopl : ∀ (pc : Nat) (op : KOp), kprog klaw pc = some op → kOpL l G pc op) (hown : ∀ m, m < kn → kown m = (ky m).cls)
    {p : Program} {e : Env} {s : State} {mid : MethodId} {args : Array Value} {below : List Frame} {meth : Method} {cd : Code} (cx : kCx G klaw p s mid meth cd args) {kc ks : Nat} (hkc : kc ≤ kcl klaw) (hks : ks ≤ ksl klaw) {Q : State → Prop} {o : Option Value × KMem}
    (k1 : ∀ (M : KMem) (ls : List Value) (a b : Int32), o = (none, mset (mset M 200 0 a) 200 1 b) → ∀ (H : Heap) (locs : List Loc) (la : Array Slot), kRep G M H → va_S G.2.2.2.2 s.heap H locs → kL G (kml klaw) (.ref 166 :: .ref 0 :: .int a :: .int b :: ls) la → W p l e (krm klaw) s mid args below meth cd H locs kc ks Q (F0 mid 410 la []))
    (k2 : ∀ (M : KMem), o = (some (.int 1), M) → ∀ (H : Heap) (locs : List Loc) (la : Array Slot), va_S G.2.2.2.2 s.heap H locs → W p l e (krm klaw) s mid args below meth cd H locs kc ks Q (F0 mid 440 la [.int 1])) :
    ∀ (f pc : Nat) (ls st : List Value) (M : KMem), krun f klaw pc ls st M = some o → ∀ (H : Heap) (locs : List Loc) (la : Array Slot), kRep G M H → va_S G.2.2.2.2 s.heap H locs → kL G (kml klaw) ls la → W p l e (krm klaw) s mid args below meth cd H locs kc ks Q (F0 mid pc la (st.map (conc G.1))) := by
  intro f
  induction f with
  | zero => intro pc ls st M h; simp [krun] at h
  | succ f ih =>
    intro pc ls st M h H locs la hR hS hL
    rw [krun] at h
    cases hp : kprog klaw pc with
    | none => rw [hp] at h; simp at h
    | some op =>
      rw [hp] at h
      have hok := hopl pc op hp
      rcases op with g | y | c
      · dsimp only at h
        cases hg : g ls st M with
        | none => rw [hg] at h; simp at h
        | some cc =>
          obtain ⟨pc', ls', st', M'⟩ := cc
          rw [hg] at h
          dsimp only at h
          exact hok hG p e s mid args below meth cd Q kc ks hkc hks cx ls st M pc' ls' st' M' hg H locs la hR hS hL (fun H' locs' la' hR' hS' hL' => ih pc' ls' st' M' h H' locs' la' hR' hS' hL')
      · obtain ⟨m', n, nx⟩ := y
        dsimp only at h
        obtain ⟨hcs, hn, hmok, hm'⟩ := hok
        dsimp only at hcs hn hmok hm'
        by_cases hc : kcall m' (st.take n).reverse (st.drop n) = true
        · rw [if_pos hc] at h
          cases hr : krun f m' 0 (kent m' (st.take n).reverse) [] M with
          | none => rw [hr] at h; simp at h
          | some o1 =>
            rw [hr] at h
            dsimp only at h
            have hcc := hc
            unfold kcall at hcc
            simp only [Bool.and_eq_true, decide_eq_true_eq] at hcc
            have hM : kMet l G m' (st.take n).reverse M (fun r M' => r = o1.1 ∧ M' = o1.2) :=
              kmet_of hmok hcc.1.1.1 hcc.2.1 (fun p e s mid args below meth cd cx H locs la hR hS hL => kbody hG hop hown f m' 0 _ [] M o1 hm' hr p e s mid args below meth cd cx H locs la hR hS hL) (hown m' (Nat.lt_trans hm' (by decide)))
            have hlen : (st.take n).reverse.length = n := by
              rw [Nat.eq_of_beq_eq_true hcc.2.2, hn]
            have hst : st = (st.take n).reverse.reverse ++ st.drop n := by rw [List.reverse_reverse, List.take_append_drop]
            rw [hst]
            refine hcs hG p e s mid args below meth cd Q kc ks hkc hks cx (st.take n).reverse (st.drop n) ls M _ hlen hc hM H locs la hR hS hL (fun r M' H' locs' hq hR' hS' => ?_)
            obtain ⟨rfl, rfl⟩ := hq
            exact ih nx ls _ o1.2 h H' locs' la hR' hS' hL
        · rw [if_neg hc] at h
          cases h
      · dsimp only at h
        rcases hok with ⟨rfl, rfl⟩ | ⟨rfl, rfl⟩
        · obtain ⟨a, b, r, rfl, rfl, rfl⟩ := kret4 h
          exact k1 M r a b rfl H locs la hR hS hL
        · obtain ⟨rfl, rfl⟩ := kret5 h
          exact k2 M rfl H locs la hS
