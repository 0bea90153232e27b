/-! THE MACHINE DOES WHAT THE SMALL MACHINE DOES. G: the cells' addresses, the classes' ids and slots, the array classes' ids, the addresses that the methods may write -/
abbrev KG : Type := (Nat → Nat) × (Nat → ClassId) × (Nat → Nat → Nat) × (Nat → ClassId) × (Nat → Prop)
def conc (ad : Nat → Nat) (v : Value) : Value := match v with
  | .ref k => .ref (ad k)
  | v => v
def kfs (ad : Nat → Nat) (k : Nat) (f : Nat → Int32) : List Value := (List.range (knF (kd k))).map (fun j => if kisR (kd k) j = true then Value.ref (ad (rf k j)) else .int (f j))
def kentr (G : KG) (k : Nat) (f : Nat → Int32) : va_E :=
  if kd k < 5 then .inr (kd k, kfs G.1 k f)
  else if kd k < 9 then .inl (G.2.2.2.1 (kd k), ln k, .inl f)
  else .inl (G.2.2.2.1 (kd k), ln k, .inr (.inr (.inr (.inr (fun j => some (G.1 (rf k j)))))))
def kw (G : KG) (M : KMem) : va_W := (List.range 166).map (fun k => (G.1 k, kentr G k (M k)))
def kRep (G : KG) (M : KMem) (H : Heap) : Prop := va_P (G.2.1, G.2.2.1) vwCl (kw G M) H
def kOK (G : KG) : Prop := (∀ i j, i < 166 → j < 166 → G.1 i = G.1 j → i = j) ∧ ∀ k, k < 166 → G.2.2.2.2 (G.1 k)
def ktys (G : KG) : List (ClassId × FieldType) := [(G.2.2.2.1 5, .int), (G.2.2.2.1 6, .char), (G.2.2.2.1 7, .boolean), (G.2.2.2.1 9, .object RX2), (G.2.2.2.1 10, .object RX1)]
def kK (G : KG) (U : State) : Prop := va_K (G.2.1, G.2.2.1) vwCl (ktys G) U ∧ ∀ q ∈ knestD, va_Nw (.methodLinkNest q.1 q.2.1 q.2.2.1 q.2.2.2) U
theorem kK.warm {G : KG} {s U : State} (h : kK G s) (hW : s.WarmedH U.vm) : kK G U := ⟨va_K.moved hW.alike h.1, fun q hq => va_Nw.warmM hW (h.2 q hq)⟩
def kgT : List Cond := lw_tbl.filter goodWord
theorem kg_mem {w : Cond} (i : Nat) (h : lw_tbl[i]? = some w) (hg : goodWord w = true) : w ∈ kgT := List.mem_filter.mpr ⟨List.mem_of_getElem? h, hg⟩
def kws (m : Nat) : List Cond := .code (ky m) (kcode m) (kml m) (kretT m) :: kgT
def krm (m : Nat) : Room := { frames := krf m, cells := kcl m, slots := ksl m, locals := krl m }
theorem kg_good {w : Cond} (h : w ∈ kgT) : w ∈ kgT ∧ ((w.onTables && w.keeps) = true ∨ ∃ ty, w = .arrayClass ty) := ⟨h, good_of_word (List.mem_filter.mp h).2⟩
def kCx (G : KG) (m : Nat) (p : Program) (s : State) (mid : MethodId) (meth : Method) (c : Code) (args : Array Value) : Prop :=
  p.tables.exec = Jvm.exec ∧ c.code = kcode m ∧ c.maxLocals = kml m ∧ meth.sig.returnType = kretT m ∧ s.vm.findClass (kown m) = some mid.cls ∧ (∀ w ∈ kgT, w.before args s = true) ∧ meth.locks = false ∧ kK G s
theorem kCx.word {G : KG} {m : Nat} {p : Program} {s : State} {mid : MethodId} {meth : Method} {c : Code} {args : Array Value} (cx : kCx G m p s mid meth c args) {w : Cond} (h : w ∈ kgT) : w.before args s = true := cx.2.2.2.2.2.1 w h
/-! locals -/
def kL (G : KG) (n : Nat) (ls : List Value) (la : Array Slot) : Prop := ls.length = n ∧ la.size = n ∧ lv_wf la ∧ ∀ (i : Nat) (v : Value), ls[i]? = some v → v ≠ .null → la[i]? = some (.val (conc G.1 v))
def kp (ad : Nat → Nat) (ls : List Value) : List (Nat × Value) := (List.range ls.length).filterMap (fun i => match ls[i]? with
  | some Value.null => none
  | some v => some (i, conc ad v)
  | none => none)
theorem kp_mem {ad : Nat → Nat} {ls : List Value} {i : Nat} {v : Value} (h : ls[i]? = some v) (hv : v ≠ .null) : (i, conc ad v) ∈ kp ad ls := by
  refine List.mem_filterMap.mpr ⟨i, List.mem_range.mpr (List.getElem?_eq_some_iff.mp h).1, ?_⟩
  rw [h]
  cases v <;> first | rfl | exact absurd rfl hv
theorem kp_of {ad : Nat → Nat} {ls : List Value} {q : Nat × Value} (h : q ∈ kp ad ls) : ∃ v, ls[q.1]? = some v ∧ v ≠ .null ∧ q.2 = conc ad v := by
  obtain ⟨i, -, hi⟩ := List.mem_filterMap.mp h
  cases hx : ls[i]? with
  | none => rw [hx] at hi; cases hi
  | some v =>
    rw [hx] at hi
    cases v <;> first | (cases hi; done) | (cases hi; exact ⟨_, hx, (by intro z; cases z), rfl⟩)
theorem kL.has {G : KG} {n : Nat} {ls : List Value} {la : Array Slot} (h : kL G n ls la) : lv_has la n (kp G.1 ls) := by
  refine ⟨h.2.1, h.2.2.1, fun q hq => ?_⟩
  obtain ⟨v, h1, h2, h3⟩ := kp_of hq
  rw [h3]
  exact h.2.2.2 _ _ h1 h2
theorem conc_cat (ad : Nat → Nat) (v : Value) : (conc ad v).category = v.category := by cases v <;> rfl
theorem kNL_cat {v : Value} : kNL v = true ↔ v.category = 1 := by cases v <;> simp [kNL, Value.category]
theorem knl_use {ls : List Value} {i j : Nat} {v : Value} (h : knl ls i = true) (hj : j + 1 = i) (hv : ls[j]? = some v) : v.category = 1 := by
  subst hj
  simp only [knl, List.getD_eq_getElem?_getD, hv, Option.getD_some] at h
  exact kNL_cat.mp h
theorem kL.store {G : KG} {n i : Nat} {ls : List Value} {la la' : Array Slot} {x : Value} (hL : kL G n ls la) (hk : knl ls i = true) (hi : i < n)
    (h : lv_has la' n ((i, conc G.1 x) :: (kp G.1 ls).filter (fun q => !(q.1 == i) && !(q.1 + 1 == i && q.2.category == 2)))) : kL G n (ls.set i x) la' := by
  refine ⟨by rw [List.length_set]; exact hL.1, h.1, h.2.1, fun j v hj hv => ?_⟩
  by_cases hji : j = i
  · subst hji
    rw [List.getElem?_set_self (by rw [hL.1]; exact hi)] at hj
    cases hj
    exact h.2.2 _ List.mem_cons_self
  · rw [List.getElem?_set_ne (fun q => hji q.symm)] at hj
    refine h.2.2 (j, conc G.1 v) (List.mem_cons_of_mem _ (List.mem_filter.mpr ⟨kp_mem hj hv, ?_⟩))
    simp only [Bool.and_eq_true, Bool.not_eq_true', beq_eq_false_iff_ne, ne_eq, Bool.and_eq_false_iff]
    refine ⟨hji, ?_⟩
    by_cases q : j + 1 = i
    · right
      rw [conc_cat, knl_use hk q hj]
      decide
    · left
      exact q
theorem kL.store2 {G : KG} {n i : Nat} {ls : List Value} {la la' : Array Slot} {x : Value} (hL : kL G n ls la) (hk : knl ls i = true) (hi : i + 1 < n)
    (h : lv_has la' n ((i, conc G.1 x) :: (kp G.1 ls).filter (fun q => !(q.1 == i) && (!(q.1 == i + 1) && !(q.1 + 1 == i && q.2.category == 2))))) : kL G n ((ls.set i x).set (i + 1) .null) la' := by
  refine ⟨by rw [List.length_set, List.length_set]; exact hL.1, h.1, h.2.1, fun j v hj hv => ?_⟩
  by_cases hji1 : j = i + 1
  · subst hji1
    rw [List.getElem?_set_self (by rw [List.length_set, hL.1]; exact hi)] at hj
    cases hj
    exact absurd rfl hv
  rw [List.getElem?_set_ne (fun q => hji1 q.symm)] at hj
  by_cases hji : j = i
  · subst hji
    rw [List.getElem?_set_self (by rw [hL.1]; omega)] at hj
    cases hj
    exact h.2.2 _ List.mem_cons_self
  · rw [List.getElem?_set_ne (fun q => hji q.symm)] at hj
    refine h.2.2 (j, conc G.1 v) (List.mem_cons_of_mem _ (List.mem_filter.mpr ⟨kp_mem hj hv, ?_⟩))
    simp only [Bool.and_eq_true, Bool.not_eq_true', beq_eq_false_iff_ne, ne_eq, Bool.and_eq_false_iff]
    refine ⟨hji, hji1, ?_⟩
    by_cases q : j + 1 = i
    · right
      rw [conc_cat, knl_use hk q hj]
      decide
    · left
      exact q
/-! the world's cells -/
theorem kd_lt {k : Nat} (h : kd k < 99) : k < 166 := by
  unfold kd at h
  rcases Nat.lt_or_ge k 166 with q | q
  · exact q
  · exfalso
    rw [if_neg (by omega), if_neg (by omega), if_neg (by omega), if_neg (by omega), if_neg (by omega), if_neg (by omega), if_neg (by omega)] at h
    omega
theorem kw_get {G : KG} {M : KMem} {k : Nat} (h : k < 166) : (kw G M)[k]? = some (G.1 k, kentr G k (M k)) := by
  simp [kw, h]
theorem kw_set {G : KG} {M : KMem} {k j : Nat} {v : Int32} (h : k < 166) {e : va_E} (he : e = kentr G k (upd (M k) j v)) : (kw G M).set k (G.1 k, e) = kw G (mset M k j v) := by
  subst he
  apply List.ext_getElem?
  intro i
  by_cases hi : i = k
  · subst hi
    rw [List.getElem?_set_self (by simpa [kw] using h), kw_get h, mset_row]
  · rw [List.getElem?_set_ne (fun q => hi q.symm)]
    by_cases h2 : i < 166
    · rw [kw_get h2, kw_get h2, mset_off hi]
    · simp [kw, h2]
theorem kw_setRow {G : KG} {M : KMem} {k : Nat} {f : Nat → Int32} (h : k < 166) {e : va_E} (he : e = kentr G k f) : (kw G M).set k (G.1 k, e) = kw G (fun c => if c = k then f else M c) := by
  subst he
  apply List.ext_getElem?
  intro i
  by_cases hi : i = k
  · subst hi
    rw [List.getElem?_set_self (by simpa [kw] using h), kw_get h]
    simp
  · rw [List.getElem?_set_ne (fun q => hi q.symm)]
    by_cases h2 : i < 166
    · rw [kw_get h2, kw_get h2]
      simp [hi]
    · simp [kw, h2]
theorem kw_D {G : KG} {M : KMem} (hG : kOK G) : va_D G.2.2.2.2 (kw G M) := by
  have lt : ∀ {i : Nat} {p : Nat × va_E}, (kw G M)[i]? = some p → i < 166 := fun h => by
    have := (List.getElem?_eq_some_iff.mp h).1
    simpa [kw] using this
  refine ⟨fun i j p q hi hj e => ?_, fun k q hk => ?_⟩
  · have h1 := lt hi
    have h2 := lt hj
    rw [kw_get h1] at hi
    rw [kw_get h2] at hj
    cases hi
    cases hj
    exact hG.1 i j h1 h2 e
  · have h1 := lt hk
    rw [kw_get h1] at hk
    cases hk
    exact hG.2 k h1
theorem kentr_obj {G : KG} {k c : Nat} (h : kd k = c) (hc : c < 5) (f : Nat → Int32) : kentr G k f = .inr (c, kfs G.1 k f) := by
  unfold kentr
  rw [if_pos (by omega), h]
theorem kentr_arr {G : KG} {k c : Nat} (h : kd k = c) (h5 : 5 ≤ c) (h9 : c < 9) (f : Nat → Int32) : kentr G k f = .inl (G.2.2.2.1 c, ln k, .inl f) := by
  unfold kentr
  rw [if_neg (by omega), if_pos (by omega), h]
theorem kentr_ref {G : KG} {k c : Nat} (h : kd k = c) (h9 : 9 ≤ c) (f : Nat → Int32) : kentr G k f = .inl (G.2.2.2.1 c, ln k, .inr (.inr (.inr (.inr (fun j => some (G.1 (rf k j))))))) := by
  unfold kentr
  rw [if_neg (by omega), if_neg (by omega), h]
theorem kfs_get {ad : Nat → Nat} {k c j : Nat} (h : kd k = c) (hj : j < knF c) (f : Nat → Int32) : (kfs ad k f)[j]? = some (if kisR c j = true then Value.ref (ad (rf k j)) else .int (f j)) := by
  simp [kfs, h, hj]
theorem kfs_len {ad : Nat → Nat} {k c : Nat} (h : kd k = c) (f : Nat → Int32) : (kfs ad k f).length = knF c := by simp [kfs, h]
theorem kfs_set {ad : Nat → Nat} {k c j : Nat} (h : kd k = c) (hj : j < knF c) (hr : kisR c j = false) (f : Nat → Int32) (v : Int32) : (kfs ad k f).set j (.int v) = kfs ad k (upd f j v) := by
  apply List.ext_getElem?
  intro i
  by_cases hi : i = j
  · subst hi
    rw [List.getElem?_set_self (by rw [kfs_len h]; exact hj), kfs_get h hj, hr]
    simp [upd]
  · rw [List.getElem?_set_ne (fun q => hi q.symm)]
    by_cases h2 : i < knF c
    · rw [kfs_get h h2, kfs_get h h2]
      have : upd f j v i = f i := if_neg hi
      rw [this]
    · simp [kfs, h, h2]
theorem kin_in {i : Int32} {n : Nat} (h : kin i n = true) : vp_in i n := by
  simp only [kin, Bool.and_eq_true, decide_eq_true_eq] at h
  intro q
  rcases q with q | q
  · exact h.1 q
  · omega
