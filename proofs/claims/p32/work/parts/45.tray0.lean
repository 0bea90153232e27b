/-! the constructors -/
theorem ra_uniq {U : State} {c1 c2 : ClassId} {ty : FieldType} (h1 : va_RA U c1 ty) (h2 : va_RA U c2 ty) : c1 = c2 := by
  have nm : ∀ c, va_RA U c ty → U.vm.findClass ("[" ++ ty.toString) = some c := fun c h => by
    cases ty <;> first | exact h | exact h.choose_spec.choose_spec.2.2.2
  exact Option.some.inj ((nm c1 h1).symm.trans (nm c2 h2))
theorem k_uniq {G : KG} {U : State} {cA : ClassId} {ty : FieldType} (i : Nat) {c : ClassId} (h : va_K (G.2.1, G.2.2.1) vwCl (ktys G ++ [(cA, ty)]) U) (hi : (ktys G)[i]? = some (c, ty)) : cA = c := by
  have hl : i < (ktys G).length := (List.getElem?_eq_some_iff.mp hi).1
  have a := (h.2 i (c, ty) (by rw [List.getElem?_append_left hl]; exact hi)).2
  have b := (h.2 (ktys G).length (cA, ty) (by rw [List.getElem?_append_right (Nat.le_refl _), Nat.sub_self]; rfl)).2
  exact ra_uniq b a
abbrev tray0 (v : Value) : va_E := .inr (2, [v, .int 0, .int 0, .int 0])
abbrev ints0 (G : KG) (n : Nat) : va_E := .inl (G.2.2.2.1 5, n, .inl (fun _ => 0))
set_option maxHeartbeats 4000000 in
theorem c_X2_init (l : Launch) (G : KG) (h0 sz : Nat) : Met l yX2_init (.code yX2_init cX2_init 1 none :: kgT) ({ frames := 1, cells := 1, slots := 10, locals := 12 }) (va_Pc [.ref h0] (fun U => U.heap.size = sz ∧ va_P (G.2.1, G.2.2.1) vwCl [(h0, tray0 .null)] U.heap ∧ kK G U ∧ va_D (fun _ => True) [(h0, tray0 .null)])) (va_Qv (fun _ : Nat => True) (fun q t => va_P (G.2.1, G.2.2.1) vwCl [(h0, tray0 (.ref q)), (q, ints0 G 10)] t.heap ∧ va_D (va_A [(h0, tray0 .null)] sz) [(h0, tray0 (.ref q)), (q, ints0 G 10)]) (va_A [(h0, tray0 .null)] sz)) 1 10 (va_A [(h0, tray0 .null)] sz) := by
  refine Met.ofW (cc := cX2_init) (maxL := 1) (ret := none) (by decide) rfl ?_
  intro p e s m args below meth c s₁ B hml hv
  obtain ⟨rfl, hsz, hP, hKK, hD0⟩ := hv
  have hK := hKK.1
  have hx := B.exec
  have hb := B.bytes
  have hr := B.returns
  have hts0 := atoms_spec (ws := .code yX2_init cX2_init 1 none :: kgT) B.pre
  have hts : ∀ w ∈ kgT, w.before #[Value.ref h0] s = true := fun w hw => hts0 w (List.mem_cons_of_mem _ hw)
  have hown : s.vm.findClass RX2 = some m.cls := findClass_of_methodNamed B.named
  have hlocks := B.notSynchronized
  have hin : meth.name = "<init>" := (name_of_methodNamed B.named B.method).1
  subst hsz
  have hD := hD0.self (sz := s.heap.size)
  generalize hAe : va_A [(h0, tray0 .null)] s.heap.size = A at hD ⊢
  have hA : ∀ q : Nat, s.heap.size ≤ q → A q := fun q h => by rw [← hAe]; exact Or.inr h
  have hS : va_S A s.heap s.heap [] := va_S.rf
  have hl := lv_entry ([.ref h0]) (n := 1) (Nat.le_of_ble_eq_true rfl)
  rw [lg_entry_eq]
  generalize (lg_sl ([.ref h0]) ++ List.replicate (1 - (lg_sl ([.ref h0])).length) Slot.unset).toArray = ls at hl ⊢
  have hl : lv_has ls 1 [(0, .ref h0)] := hl
  refine lv_aload_n hx hb dX2_init_0 rfl (lv_at hl 0 rfl) ?_
  refine W.objInit hx hb hown (hts _ wcO_2) (hts _ wcO_i) (hts _ wcO_c) rfl (by rw [hml]; exact hl.1) rfl dX2_init_1 (Nat.le_of_ble_eq_true rfl) (Nat.le_of_ble_eq_true rfl) ?_
  refine W.eq (g2 := F0 m 4 ls []) rfl ?_
  refine lv_aload_n hx hb dX2_init_4 rfl (lv_at hl 0 rfl) ?_
  refine lv_bipush (v := 10) hx hb dX2_init_5 (by decide) ?_
  refine va_newa (atype := .int) (ty := .int) (N' := 10) (a0 := (10, .inl (fun _ => 0))) hx hb (hts _ wcA_int) rfl hK hP hD hS hA (fun cA => rfl) (by decide) (by decide) (Nat.le_of_ble_eq_true rfl) (Nat.le_of_ble_eq_true rfl) (Nat.le_of_ble_eq_true rfl) dX2_init_7 (fun q cA H hK2 hP hD hS => ?_)
  have ec : cA = G.2.2.2.1 5 := k_uniq 0 hK2 rfl
  subst ec
  have hP : va_P (G.2.1, G.2.2.1) vwCl [(h0, tray0 .null), (q, ints0 G 10)] H := hP
  have hD : va_D A [(h0, tray0 .null), (q, ints0 G 10)] := hD
  refine va_putF (D := (G.2.1, G.2.2.1)) (ci := 2) (v := .ref q) (ty := .array .int) (C := RX2) (T := TX2) (N := 4) hx hb hts hin2 tyX2 tyX2_ok nmX2 hown hK hP hD hS 0 rfl rfl 0 (by decide) (hts _ wcF_2_lying) (fun _ h9 => h9) rfl hin rfl (by decide +kernel) rfl rfl (Nat.le_of_ble_eq_true rfl) dX2_init_9 (fun H locs hP hD hS => ?_)
  have hP : va_P (G.2.1, G.2.2.1) vwCl [(h0, tray0 (.ref q)), (q, ints0 G 10)] H := hP
  have hD : va_D A [(h0, tray0 (.ref q)), (q, ints0 G 10)] := hD
  refine W.widen (k := 1) (n := 10) (Nat.le_of_ble_eq_true rfl) (Nat.le_of_ble_eq_true rfl) ?_
  exact W.vret hx hb hr (fun t ht hW => ⟨⟨q, rfl, trivial, by rw [ht]; exact hP, hD⟩, hS.F ht⟩) hS.2.2 dX2_init_12
