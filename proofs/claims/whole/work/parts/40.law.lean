/-! the law's calls -/
theorem lg_in {w : Cond} (h : w ∈ kgT) : w ∈ lw_tbl ∧ ((w.onTables && w.keeps) = true ∨ ∃ ty, w = .arrayClass ty) := ⟨(List.mem_filter.mp h).1, good_of_word (List.mem_filter.mp h).2⟩
theorem lgood {m' : Nat} (h1 : Cond.code (ky m') (kcode m') (kml m') (kretT m') ∈ kgT) : GoodIn lw_tbl (kws m') := by
  intro w hw
  rcases List.mem_cons.mp hw with rfl | hw
  · exact lg_in h1
  · exact lg_in hw
def lCx (G : KG) (p : Program) (s : State) (mid : MethodId) (meth : Method) (c : Code) (b : Nat) : Prop :=
  p.tables.exec = Jvm.exec ∧ c.code = code ∧ c.maxLocals = 4 ∧ meth.sig.returnType = ret ∧ s.vm.findClass R_law = some mid.cls ∧ (∀ w ∈ lw_tbl, w.before #[Value.ref b] s = true) ∧ meth.locks = false ∧ kK G s
section LAW
variable {l : Launch} {G : KG} {p : Program} {e : Env} {s : State} {mid : MethodId} {below : List Frame} {meth : Method} {cd : Code} {Q : State → Prop} {b kc ks : Nat}
theorem lfix (cx : lCx G p s mid meth cd b) : CallFix p mid cd code 4 s #[Value.ref b] lw_tbl R_law := ⟨cx.1, cx.2.1, cx.2.2.1, cx.2.2.2.2.1, cx.2.2.2.2.2.1⟩
theorem law_call {m' pc idx c N k : Nat} {C : String} {T : u_T} {as' : List Value} {M : KMem} {Q' : Option Value → KMem → Prop} {rest : List Value} {H : Heap} {locs : List Loc} {la : Array Slot} (cx : lCx G p s mid meth cd b) (hd : decode code pc = .ok (.invokevirtual idx, 3)) (hok : kMok m') (hrc : krc m' = 1) (hcl : vwCl[c]? = some (C, T, N)) (hC : (ky m').cls = C) (hc5 : c < 5) (hk : kd k = c) (hn : as'.length = knar_ m')
    (hl : Cond.methodLink R_law idx (ky m') ∈ kgT) (hi : Cond.instanceMethod (ky m') ∈ kgT) (hs : Cond.selects C (ky m') (ky m') ∈ kgT) (hini : Cond.initialized C ∈ kgT) (hf : krf m' + 1 ≤ room_1.frames ∧ 8 + (kml m' + 11) + krl m' ≤ room_1.locals)
    (hM : kMet l G m' (.ref k :: as') M Q') (hR : kRep G M H) (hS : va_S G.2.2.2.2 s.heap H locs) {lv : List (Nat × Value)} (hla : lv_has la 4 lv) (hcs : kc + 0 ≤ room_1.cells ∧ ks + 0 ≤ room_1.slots) (hrest : ((rest.map (conc G.1)).map fun v => v.category).sum ≤ 8)
    (kk : ∀ (r : Int32) (M' : KMem) (H' : Heap) (locs' : List Loc), Q' (some (.int r)) M' → kRep G M' H' → va_S G.2.2.2.2 s.heap H' locs' → W p l e room_1 s mid #[Value.ref b] below meth cd H' locs' kc ks Q (F0 mid (pc + 3) la ((Value.int r :: rest).map (conc G.1)))) :
    W p l e room_1 s mid #[Value.ref b] below meth cd H locs kc ks Q (F0 mid pc la (((Value.ref k :: as').reverse ++ rest).map (conc G.1))) := by
  have hT : GoodIn lw_tbl (wsV R_law idx C (ky m') (kws m')) := by
    intro w hw
    unfold wsV at hw
    rcases List.mem_append.mp hw with h | h
    · simp only [List.mem_cons, List.not_mem_nil, or_false] at h
      rcases h with rfl | rfl | rfl | rfl
      · exact lg_in hl
      · exact lg_in hi
      · exact lg_in hs
      · exact lg_in hini
    · exact lgood hok.1 w h
  have hr := va_runV (R := room_1) (e := e) (meth := meth) (below := below) (cells := kc) (slots := ks) (locs := locs) (As := as'.map (conc G.1)) (b := G.1 k) (lfix cx) hM (cwV (rm := krm m') (mc := 0) (ms := 0) (knar_ m') cx.2.2.2.2.2.1 hT rfl rfl rfl ⟨hC, hok.2.2.1.1, hok.2.2.1.2.1, hok.2.2.1.2.2⟩ hf) ⟨kPc_blind, va_recv cx.2.2.2.2.2.2.2.1 hR hcl (kd_obj hk hc5), fun U hU hW => ⟨rfl, by rw [hU]; exact hR, cx.2.2.2.2.2.2.2.warm hW⟩⟩ rfl (by rw [List.length_map]; exact hn) hla.1 (g := F0 mid pc la (((Value.ref k :: as').reverse ++ rest).map (conc G.1))) (rest := rest.map (conc G.1)) (by simp [List.map_append, List.map_reverse, conc]) (lv_room hrest) hd hcs
  unfold kQ at hr
  rw [if_neg (by rw [hrc]; decide)] at hr
  exact va_calli hr hS (fun q _ h => h) (fun q h => h) (fun r u t H1 locs1 ht _ hw hB _ _ hS1 => by
    rw [ht] at hB
    exact kk r u H1 locs1 hw hB hS1)
end LAW
