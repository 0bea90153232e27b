/-! an object made by a constructor's call; rows about worlds -/
theorem va_P.mem {D : va_G} {cl : List vw_C} {ws ws' : va_W} {H : Heap} (h : va_P D cl ws H) (hs : ∀ z ∈ ws', z ∈ ws) : va_P D cl ws' H := fun k q hk => by
  obtain ⟨i, hi⟩ := List.getElem?_of_mem (hs q (List.mem_of_getElem? hk))
  exact h i q hi
theorem va_D_iff {A : Nat → Prop} {ws : va_W} : va_D A ws ↔ (ws.map Prod.fst).Nodup ∧ ∀ a ∈ ws.map Prod.fst, A a := by
  constructor
  · intro h
    refine ⟨?_, fun a ha => ?_⟩
    · refine List.pairwise_iff_getElem.mpr (fun i j hi hj hij e => ?_)
      rw [List.length_map] at hi hj
      rw [List.getElem_map, List.getElem_map] at e
      have := h.1 i j _ _ (List.getElem?_eq_getElem hi) (List.getElem?_eq_getElem hj) e
      omega
    · obtain ⟨z, hz, rfl⟩ := List.mem_map.mp ha
      obtain ⟨i, hi⟩ := List.getElem?_of_mem hz
      exact h.2 i z hi
  · rintro ⟨h1, h2⟩
    refine ⟨fun i j p q hi hj e => ?_, fun k q hk => h2 _ (List.mem_map.mpr ⟨q, List.mem_of_getElem? hk, rfl⟩)⟩
    have h1 := List.pairwise_iff_getElem.mp h1
    obtain ⟨li, ei⟩ := List.getElem?_eq_some_iff.mp hi
    obtain ⟨lj, ej⟩ := List.getElem?_eq_some_iff.mp hj
    have ni : i < (ws.map Prod.fst).length := by rw [List.length_map]; exact li
    have nj : j < (ws.map Prod.fst).length := by rw [List.length_map]; exact lj
    rcases Nat.lt_trichotomy i j with g | g | g
    · exact absurd (by rw [List.getElem_map, List.getElem_map, ei, ej, e]) (h1 i j ni nj g)
    · exact g
    · exact absurd (by rw [List.getElem_map, List.getElem_map, ei, ej, e]) (h1 j i nj ni g)
theorem va_D.perm {A : Nat → Prop} {ws ws' : va_W} (h : va_D A ws) (hs : ws'.Perm ws) : va_D A ws' := by
  rw [va_D_iff] at h ⊢
  have e := hs.map Prod.fst
  exact ⟨e.nodup_iff.mpr h.1, fun a ha => h.2 a (e.mem_iff.mp ha)⟩
theorem va_D.fst {A : Nat → Prop} {ws ws' : va_W} (h : va_D A ws) (e : ws'.map Prod.fst = ws.map Prod.fst) : va_D A ws' := by
  rw [va_D_iff] at h ⊢
  rw [e]
  exact h
theorem va_nd_of {l : List Nat} (h : l.Nodup) : va_nd l = true := by
  induction l with
  | nil => rfl
  | cons a t ih =>
    rw [List.nodup_cons] at h
    unfold va_nd
    rw [ih h.2, Bool.and_true]
    exact decide_eq_true h.1
theorem jn_last {A0 : Nat → Prop} {D : va_G} {cl : List vw_C} {X w1 : va_W} {z : Nat × va_E} {H H1 : Heap} (hP : va_P D cl (X ++ [z]) H) (hD : va_D A0 (X ++ [z])) (hk : ∀ q : Nat, q < H.size → ¬ va_A [z] H.size q → H1[q]? = H[q]?) (hF : ∀ q, va_A [z] H.size q → A0 q) (hP1 : va_P D cl w1 H1) (hD1 : va_D (va_A [z] H.size) w1) : va_P D cl (X ++ w1) H1 ∧ va_D A0 (X ++ w1) := by
  refine va_join (wc := [z]) (wr := X) hP hD [X.length] (List.range X.length) ?_ ?_ (va_nd_of List.nodup_range) (fun i hi hc => ?_) hk hF hP1 hD1
  · simp
  · apply List.ext_getElem?
    intro i
    by_cases h : i < X.length
    · rw [List.getElem?_map, List.getElem?_range h, List.getElem?_map, Option.map_some, List.getElem?_append_left h, List.getElem?_eq_getElem h]
      rfl
    · simp [h]
  · have h1 := List.mem_range.mp hi
    rw [List.mem_singleton] at hc
    omega
theorem arrV_congr {cI : ClassId} {N : Nat} {f g : Nat → Value} (h : ∀ j, j < N → f j = g j) : arrV cI N f = arrV cI N g := by
  unfold arrV
  congr 1
  apply Array.ext
  · simp
  · intro i h1 h2
    simp at h1
    simp [h i h1]
/-- two contents alike as far as the row goes -/
def eqE (x y : va_E) : Prop := x = y ∨ (∃ (cA : ClassId) (n : Nat) (f g : Nat → Int32), x = .inl (cA, n, .inl f) ∧ y = .inl (cA, n, .inl g) ∧ ∀ j, j < n → f j = g j) ∨ ∃ (cA : ClassId) (n : Nat) (f g : Nat → Option Nat), x = .inl (cA, n, .inr (.inr (.inr (.inr f)))) ∧ y = .inl (cA, n, .inr (.inr (.inr (.inr g)))) ∧ ∀ j, j < n → f j = g j
theorem eqE.at {D : va_G} {cl : List vw_C} {a : Nat} {x y : va_E} {H : Heap} (h : eqE x y) (hx : va_at D cl (a, x) H) : va_at D cl (a, y) H := by
  rcases h with rfl | ⟨cA, n, f, g, rfl, rfl, h⟩ | ⟨cA, n, f, g, rfl, rfl, h⟩
  · exact hx
  · have hx : H[a]? = some (vp_cell cA (n, .inl f)) := hx
    show H[a]? = some (vp_cell cA (n, .inl g))
    rw [hx, vp_cell_i, vp_cell_i, arrV_congr (fun j hj => by rw [h j hj])]
  · have hx : H[a]? = some (vp_cell cA (n, .inr (.inr (.inr (.inr f))))) := hx
    show H[a]? = some (vp_cell cA (n, .inr (.inr (.inr (.inr g)))))
    rw [hx, vp_cell_q, vp_cell_q, arrV_congr (fun j hj => by rw [h j hj])]
theorem va_P.alike {D : va_G} {cl : List vw_C} {ws ws' : va_W} {H : Heap} (h : va_P D cl ws H) (hl : ws'.length = ws.length) (hs : ∀ k, k < ws.length → ∃ (a : Nat) (x y : va_E), ws[k]? = some (a, x) ∧ ws'[k]? = some (a, y) ∧ eqE x y) : va_P D cl ws' H := fun k q hk => by
  have hlt := (List.getElem?_eq_some_iff.mp hk).1
  obtain ⟨a, x, y, h1, h2, h3⟩ := hs k (by omega)
  rw [h2] at hk
  cases hk
  exact h3.at (h k _ h1)
/-- the words that the constructors need beside -/
def k2K (G : KG) (U : State) : Prop := kK G U ∧ va_Nw (.methodLinkNest RX1 43 yX2_init RX3) U ∧ va_Nw (.methodLinkNest RX3 25 yX0_init RX3) U ∧ va_AO RX1 U ∧ va_AO RX2 U
theorem k2K.warm {G : KG} {s U : State} (h : k2K G s) (hW : s.WarmedH U.vm) : k2K G U := ⟨h.1.warm hW, va_Nw.warmM hW h.2.1, va_Nw.warmM hW h.2.2.1, h.2.2.2.1.moved hW.alike, h.2.2.2.2.moved hW.alike⟩
theorem kK.blind {G : KG} (a : Array Value) (U : State) (g : JFrame) (mk : MethodId) (h : kK G U) : kK G (U.calling g mk a) := ⟨va_K.moved (u := U) (U := U.calling g mk a) (Vm.Alike.refl U.vm) h.1, fun w hw => va_Nw.same (u := U) (U := U.calling g mk a) rfl rfl (h.2 w hw)⟩
theorem k2K.blind {G : KG} (a : Array Value) (U : State) (g : JFrame) (mk : MethodId) (h : k2K G U) : k2K G (U.calling g mk a) := ⟨h.1.blind a U g mk, va_Nw.same (u := U) (U := U.calling g mk a) rfl rfl h.2.1, va_Nw.same (u := U) (U := U.calling g mk a) rfl rfl h.2.2.1, va_AO.moved (u := U) (U := U.calling g mk a) (Vm.Alike.refl U.vm) h.2.2.2.1, va_AO.moved (u := U) (U := U.calling g mk a) (Vm.Alike.refl U.vm) h.2.2.2.2⟩
theorem one_get {z y : Nat × va_E} {k : Nat} (h : [z][k]? = some y) : y = z := List.mem_singleton.mp (List.mem_of_getElem? h)
section MK
variable {p : Program} {l : Launch} {e : Env} {R : Room} {s : State} {m : MethodId} {args : Array Value} {below : List Frame} {meth : Method} {c : Code} {Q : State → Prop}
variable {own C host : String} {cc bytes : ByteArray} {nL maxL mc ms ci N ix im kc ks pc : Nat} {Ts ws : List Cond} {A : Nat → Prop} {D : va_G} {tys : List (ClassId × FieldType)} {X : va_W} {H : Heap} {locs : List Loc} {ls : Array Slot} {rest : List Value} {T : u_T} {ty : Nat → FieldType} {fs : List Value} {y : MethodName} {rm : Room} {KK : State → Prop} {S : Type} {post : Nat → S → Prop} {w : Nat → S → va_W}
def mkP (D : va_G) (ci : Nat) (fs : List Value) (KK : State → Prop) (q sz : Nat) : Array Value → State → Prop := va_Pc [.ref q] (fun U => U.heap.size = sz ∧ va_P D vwCl [(q, .inr (ci, fs))] U.heap ∧ KK U ∧ va_D (fun _ => True) [(q, .inr (ci, fs))])
def mkQ {S : Type} (D : va_G) (ci : Nat) (fs : List Value) (post : Nat → S → Prop) (w : Nat → S → va_W) (q sz : Nat) : Array Value → State → Outcome → State → Prop := va_Qv (post q) (fun u t => va_P D vwCl (w q u) t.heap ∧ va_D (va_A [(q, .inr (ci, fs))] sz) (w q u)) (va_A [(q, .inr (ci, fs))] sz)
theorem mk_go (cf : CallFix p m c cc nL s args Ts own) (hin : ∀ w ∈ u_ws C T N, w ∈ Ts) (hty : ∀ k, k < N → parseFieldDescriptor (T k).2.2.1 = some (ty k)) (hcl : (Cond.classLink own ix C).before args s = true) (hinst : (Cond.instantiable C N).before args s = true) (hini : (Cond.initialized C).before args s = true)
    (hK : va_K D vwCl tys s) (hP : va_P D vwCl X H) (hD : va_D A X) (hS : va_S A s.heap H locs) (hA : ∀ q : Nat, s.heap.size ≤ q → A q) (hc : vwCl[ci]? = some (C, T, N)) (hfs : ∀ j, j < N → defaultValue (ty j) = vp_V fs j)
    (hKb : ∀ (a : Array Value) (U : State) (g : JFrame) (mk : MethodId), KK U → KK (U.calling g mk a)) (hKw : ∀ U : State, s.WarmedH U.vm → KK U)
    (d1 : decode cc pc = .ok (.new ix, 3)) (d2 : decode cc (pc + 3) = .ok (.dup, 1)) (hcs : kc + 1 + mc ≤ R.cells ∧ ks + N + ms ≤ R.slots)
    (run : ∀ (q : Nat) (H1 : Heap), PreS s H1 (mkP D ci fs KK q H1.size) [.ref q] → va_Run p l e R s m args below meth c H1 locs (kc + 1) (ks + N) mc ms (F0 m (pc + 4) ls (.ref q :: .ref q :: rest)) (.ref q :: rest) (mkQ D ci fs post w q H1.size [Value.ref q].toArray) (va_A [(q, .inr (ci, fs))] H1.size))
    (kk : ∀ (q : Nat) (u : S) (H1 : Heap) (locs1 : List Loc), post q u → va_P D vwCl (X ++ w q u) H1 → va_D A (X ++ w q u) → va_S A s.heap H1 locs1 → W p l e R s m args below meth c H1 locs1 (kc + 1 + mc) (ks + N + ms) Q (F0 m (pc + 7) ls (.ref q :: rest))) :
    W p l e R s m args below meth c H locs kc ks Q (F0 m pc ls rest) := by
  obtain ⟨hx, hb, hml, hown, hts⟩ := id cf
  refine va_new (ci := ci) (fs := fs) (C := C) (T := T) (N := N) hx hb hts hin ty hty hown hcl hinst hini hK hP hD hS hA hc hfs (by omega) (by omega) d1 (fun q H1 hP1 hD1 hS1 => ?_)
  refine lv_dup hx hb d2 rfl ?_
  have hg : (X ++ [(q, (.inr (ci, fs) : va_E))])[X.length]? = some (q, .inr (ci, fs)) := by simp
  have hPc : va_P D vwCl [(q, .inr (ci, fs))] H1 := fun k z hk => by
    rw [one_get hk]
    exact hP1 X.length _ hg
  have hDc : va_D (fun _ => True) [((q : Nat), (.inr (ci, fs) : va_E))] := ⟨fun i j _ _ hi hj _ => by
    have h1 := (List.getElem?_eq_some_iff.mp hi).1
    have h2 := (List.getElem?_eq_some_iff.mp hj).1
    simp only [List.length_singleton] at h1 h2
    omega, fun _ _ _ => trivial⟩
  have hF : ∀ z, va_A [(q, (.inr (ci, fs) : va_E))] H1.size z → A z := by
    intro z hz
    rcases hz with ⟨k, e, hk⟩ | hz
    · have := one_get hk
      cases this
      exact hD1.2 X.length _ hg
    · exact hA z (Nat.le_trans hS1.1 hz)
  have hr := run q H1 ⟨fun a U g mk z => ⟨z.1, z.2.1, z.2.2.1, hKb a U g mk z.2.2.2.1, z.2.2.2.2⟩, fun U hU hW => ⟨rfl, by rw [hU], by rw [hU]; exact hPc, hKw U hW, hDc⟩⟩
  unfold mkQ at hr
  refine va_callv hr hS1 (fun z _ h => hF z h) hF (fun u t H2 locs2 ht hvm hw hB hz hk hS2 => ?_)
  obtain ⟨hP2, hD2⟩ := hB
  rw [ht] at hP2
  obtain ⟨hP3, hD3⟩ := jn_last hP1 hD1 hk hF hP2 hD2
  exact kk q u H2 locs2 hw hP3 hD3 hS2
end MK
/-! the classes of the rows -/
theorem arr_int {args : Array Value} {s : State} (h : (Cond.arrayClass .int).before args s = true) : ∃ cA, ArrOfT s cA .int ∧ va_RA s cA .int := by
  obtain ⟨c, k, comp, h1, h2, h3⟩ := Cond.arrayClass_spec h
  exact ⟨c, fun n z => ⟨(fun k h => by cases h), k, h2, comp, h3⟩, h1⟩
theorem arr_char {args : Array Value} {s : State} (h : (Cond.arrayClass .char).before args s = true) : ∃ cA, ArrOfT s cA .char ∧ va_RA s cA .char := by
  obtain ⟨c, k, comp, h1, h2, h3⟩ := Cond.arrayClass_spec h
  exact ⟨c, fun n z => ⟨(fun k h => by cases h), k, h2, comp, h3⟩, h1⟩
theorem arr_boolean {args : Array Value} {s : State} (h : (Cond.arrayClass .boolean).before args s = true) : ∃ cA, ArrOfT s cA .boolean ∧ va_RA s cA .boolean := by
  obtain ⟨c, k, comp, h1, h2, h3⟩ := Cond.arrayClass_spec h
  exact ⟨c, fun n z => ⟨(fun k h => by cases h), k, h2, comp, h3⟩, h1⟩
theorem arr_byte {args : Array Value} {s : State} (h : (Cond.arrayClass .byte).before args s = true) : ∃ cA, ArrOfT s cA .byte ∧ va_RA s cA .byte := by
  obtain ⟨c, k, comp, h1, h2, h3⟩ := Cond.arrayClass_spec h
  exact ⟨c, fun n z => ⟨(fun k h => by cases h), k, h2, comp, h3⟩, h1⟩
theorem arr_obj {args : Array Value} {s : State} {C : String} (h : (Cond.arrayOver (.object C)).before args s = true) : ∃ cA, ArrOfT s cA (.object C) ∧ va_RA s cA (.object C) := by
  obtain ⟨comp, c, k, h1, h2, h3, h4, h5⟩ := Cond.arrayOver_spec h
  exact ⟨c, fun n z => ⟨(fun k h => by cases h), k, h3, comp, h4⟩, k, comp, h3, h4, h1, h5⟩
