/-! the constructor of the text -/
set_option maxHeartbeats 4000000 in
theorem c_X0_init (l : Launch) (G : KG) (h0 sz : Nat) : Met l yX0_init (.code yX0_init cX0_init 1 none :: kgT) ({ frames := 1, cells := 3, slots := 100, locals := 12 }) (va_Pc [.ref h0] (fun U => U.heap.size = sz ∧ va_P (G.2.1, G.2.2.1) vwCl [(h0, .inr (0, [.null, .null, .null, .int 0, .int 0]))] U.heap ∧ kK G U ∧ va_D (fun _ => True) [(h0, .inr (0, [.null, .null, .null, .int 0, .int 0]))])) (va_Qv (fun _ : Nat × Nat × Nat => True) (fun u t => va_P (G.2.1, G.2.2.1) vwCl ([(h0, .inr (0, [.ref u.1, .ref u.2.1, .ref u.2.2, .int 0, .int 0])), (u.1, .inl (G.2.2.2.1 6, 80, .inl (fun _ => 0))), (u.2.1, .inl (G.2.2.2.1 5, 10, .inl (fun _ => 0))), (u.2.2, .inl (G.2.2.2.1 7, 10, .inl (fun _ => 0)))]) t.heap ∧ va_D (va_A [(h0, .inr (0, [.null, .null, .null, .int 0, .int 0]))] sz) ([(h0, .inr (0, [.ref u.1, .ref u.2.1, .ref u.2.2, .int 0, .int 0])), (u.1, .inl (G.2.2.2.1 6, 80, .inl (fun _ => 0))), (u.2.1, .inl (G.2.2.2.1 5, 10, .inl (fun _ => 0))), (u.2.2, .inl (G.2.2.2.1 7, 10, .inl (fun _ => 0)))])) (va_A [(h0, .inr (0, [.null, .null, .null, .int 0, .int 0]))] sz)) 3 100 (va_A [(h0, .inr (0, [.null, .null, .null, .int 0, .int 0]))] sz) := by
  refine Met.ofW (cc := cX0_init) (maxL := 1) (ret := none) (by decide) rfl ?_
  intro p e s m args below meth c s₁ B hml hv
  obtain ⟨rfl, hsz, hP, hKK, hD0⟩ := hv
  have hK := hKK.1
  have hx := B.exec
  have hb := B.bytes
  have hr := B.returns
  have hts0 := atoms_spec (ws := .code yX0_init cX0_init 1 none :: kgT) B.pre
  have hts : ∀ w ∈ kgT, w.before #[Value.ref h0] s = true := fun w hw => hts0 w (List.mem_cons_of_mem _ hw)
  have hown : s.vm.findClass RX0 = some m.cls := findClass_of_methodNamed B.named
  have hlocks := B.notSynchronized
  have hin : meth.name = "<init>" := (name_of_methodNamed B.named B.method).1
  subst hsz
  have hD := hD0.self (sz := s.heap.size)
  generalize hAe : va_A [(h0, .inr (0, [.null, .null, .null, .int 0, .int 0]))] s.heap.size = A at hD ⊢
  have hA : ∀ q : Nat, s.heap.size ≤ q → A q := fun q h => by rw [← hAe]; exact Or.inr h
  have hS : va_S A s.heap s.heap [] := va_S.rf
  have hl := lv_entry ([.ref h0]) (n := 1) (Nat.le_of_ble_eq_true rfl)
  rw [lg_entry_eq]
  generalize (lg_sl ([.ref h0]) ++ List.replicate (1 - (lg_sl ([.ref h0])).length) Slot.unset).toArray = ls at hl ⊢
  have hl : lv_has ls 1 [(0, .ref h0)] := hl
  refine lv_aload_n hx hb dX0_init_0 rfl (lv_at hl 0 rfl) ?_
  refine W.objInit hx hb hown (hts _ wcO_0) (hts _ wcO_i) (hts _ wcO_c) rfl (by rw [hml]; exact hl.1) rfl dX0_init_1 (Nat.le_of_ble_eq_true rfl) (Nat.le_of_ble_eq_true rfl) ?_
  refine W.eq (g2 := F0 m 4 ls []) rfl ?_
  refine lv_aload_n hx hb dX0_init_4 rfl (lv_at hl 0 rfl) ?_
  refine lv_bipush (v := 80) hx hb dX0_init_5 (by decide) ?_
  refine va_newa (atype := .char) (ty := .char) (N' := 80) (a0 := (80, .inl (fun _ => 0))) hx hb (hts _ wcA_char) rfl hK hP hD hS hA (fun cA => rfl) (by decide) (by decide) (Nat.le_of_ble_eq_true rfl) (Nat.le_of_ble_eq_true rfl) (Nat.le_of_ble_eq_true rfl) dX0_init_7 (fun q0 cA H hK2 hP hD hS => ?_)
  have ec : cA = G.2.2.2.1 6 := k_uniq 1 hK2 rfl
  subst ec
  clear hK2
  have hP : va_P (G.2.1, G.2.2.1) vwCl [(h0, .inr (0, [.null, .null, .null, .int 0, .int 0])), (q0, .inl (G.2.2.2.1 6, 80, .inl (fun _ => 0)))] H := hP
  have hD : va_D A [(h0, .inr (0, [.null, .null, .null, .int 0, .int 0])), (q0, .inl (G.2.2.2.1 6, 80, .inl (fun _ => 0)))] := hD
  refine va_putF (D := (G.2.1, G.2.2.1)) (ci := 0) (v := .ref q0) (ty := .array .char) (C := RX0) (T := TX0) (N := 5) hx hb hts hin0 tyX0 tyX0_ok nmX0 hown hK hP hD hS 0 rfl rfl 0 (by decide) (hts _ wcF_0_signs) (fun _ h9 => h9) rfl hin rfl (by decide +kernel) rfl rfl (Nat.le_of_ble_eq_true rfl) dX0_init_9 (fun H locs hP hD hS => ?_)
  have hP : va_P (G.2.1, G.2.2.1) vwCl [(h0, .inr (0, [.ref q0, .null, .null, .int 0, .int 0])), (q0, .inl (G.2.2.2.1 6, 80, .inl (fun _ => 0)))] H := hP
  have hD : va_D A [(h0, .inr (0, [.ref q0, .null, .null, .int 0, .int 0])), (q0, .inl (G.2.2.2.1 6, 80, .inl (fun _ => 0)))] := hD
  refine lv_aload_n hx hb dX0_init_12 rfl (lv_at hl 0 rfl) ?_
  refine lv_bipush (v := 10) hx hb dX0_init_13 (by decide) ?_
  refine va_newa (atype := .int) (ty := .int) (N' := 10) (a0 := (10, .inl (fun _ => 0))) hx hb (hts _ wcA_int) rfl hK hP hD hS hA (fun cA => rfl) (by decide) (by decide) (Nat.le_of_ble_eq_true rfl) (Nat.le_of_ble_eq_true rfl) (Nat.le_of_ble_eq_true rfl) dX0_init_15 (fun q1 cA H hK2 hP hD hS => ?_)
  have ec : cA = G.2.2.2.1 5 := k_uniq 0 hK2 rfl
  subst ec
  clear hK2
  have hP : va_P (G.2.1, G.2.2.1) vwCl [(h0, .inr (0, [.ref q0, .null, .null, .int 0, .int 0])), (q0, .inl (G.2.2.2.1 6, 80, .inl (fun _ => 0))), (q1, .inl (G.2.2.2.1 5, 10, .inl (fun _ => 0)))] H := hP
  have hD : va_D A [(h0, .inr (0, [.ref q0, .null, .null, .int 0, .int 0])), (q0, .inl (G.2.2.2.1 6, 80, .inl (fun _ => 0))), (q1, .inl (G.2.2.2.1 5, 10, .inl (fun _ => 0)))] := hD
  refine va_putF (D := (G.2.1, G.2.2.1)) (ci := 0) (v := .ref q1) (ty := .array .int) (C := RX0) (T := TX0) (N := 5) hx hb hts hin0 tyX0 tyX0_ok nmX0 hown hK hP hD hS 0 rfl rfl 1 (by decide) (hts _ wcF_0_masses) (fun _ h9 => h9) rfl hin rfl (by decide +kernel) rfl rfl (Nat.le_of_ble_eq_true rfl) dX0_init_17 (fun H locs hP hD hS => ?_)
  have hP : va_P (G.2.1, G.2.2.1) vwCl [(h0, .inr (0, [.ref q0, .ref q1, .null, .int 0, .int 0])), (q0, .inl (G.2.2.2.1 6, 80, .inl (fun _ => 0))), (q1, .inl (G.2.2.2.1 5, 10, .inl (fun _ => 0)))] H := hP
  have hD : va_D A [(h0, .inr (0, [.ref q0, .ref q1, .null, .int 0, .int 0])), (q0, .inl (G.2.2.2.1 6, 80, .inl (fun _ => 0))), (q1, .inl (G.2.2.2.1 5, 10, .inl (fun _ => 0)))] := hD
  refine lv_aload_n hx hb dX0_init_20 rfl (lv_at hl 0 rfl) ?_
  refine lv_bipush (v := 10) hx hb dX0_init_21 (by decide) ?_
  refine va_newa (atype := .boolean) (ty := .boolean) (N' := 10) (a0 := (10, .inl (fun _ => 0))) hx hb (hts _ wcA_boolean) rfl hK hP hD hS hA (fun cA => rfl) (by decide) (by decide) (Nat.le_of_ble_eq_true rfl) (Nat.le_of_ble_eq_true rfl) (Nat.le_of_ble_eq_true rfl) dX0_init_23 (fun q2 cA H hK2 hP hD hS => ?_)
  have ec : cA = G.2.2.2.1 7 := k_uniq 2 hK2 rfl
  subst ec
  clear hK2
  have hP : va_P (G.2.1, G.2.2.1) vwCl [(h0, .inr (0, [.ref q0, .ref q1, .null, .int 0, .int 0])), (q0, .inl (G.2.2.2.1 6, 80, .inl (fun _ => 0))), (q1, .inl (G.2.2.2.1 5, 10, .inl (fun _ => 0))), (q2, .inl (G.2.2.2.1 7, 10, .inl (fun _ => 0)))] H := hP
  have hD : va_D A [(h0, .inr (0, [.ref q0, .ref q1, .null, .int 0, .int 0])), (q0, .inl (G.2.2.2.1 6, 80, .inl (fun _ => 0))), (q1, .inl (G.2.2.2.1 5, 10, .inl (fun _ => 0))), (q2, .inl (G.2.2.2.1 7, 10, .inl (fun _ => 0)))] := hD
  refine va_putF (D := (G.2.1, G.2.2.1)) (ci := 0) (v := .ref q2) (ty := .array .boolean) (C := RX0) (T := TX0) (N := 5) hx hb hts hin0 tyX0 tyX0_ok nmX0 hown hK hP hD hS 0 rfl rfl 2 (by decide) (hts _ wcF_0_named) (fun _ h9 => h9) rfl hin rfl (by decide +kernel) rfl rfl (Nat.le_of_ble_eq_true rfl) dX0_init_25 (fun H locs hP hD hS => ?_)
  have hP : va_P (G.2.1, G.2.2.1) vwCl [(h0, .inr (0, [.ref q0, .ref q1, .ref q2, .int 0, .int 0])), (q0, .inl (G.2.2.2.1 6, 80, .inl (fun _ => 0))), (q1, .inl (G.2.2.2.1 5, 10, .inl (fun _ => 0))), (q2, .inl (G.2.2.2.1 7, 10, .inl (fun _ => 0)))] H := hP
  have hD : va_D A [(h0, .inr (0, [.ref q0, .ref q1, .ref q2, .int 0, .int 0])), (q0, .inl (G.2.2.2.1 6, 80, .inl (fun _ => 0))), (q1, .inl (G.2.2.2.1 5, 10, .inl (fun _ => 0))), (q2, .inl (G.2.2.2.1 7, 10, .inl (fun _ => 0)))] := hD
  refine W.widen (k := 3) (n := 100) (Nat.le_of_ble_eq_true rfl) (Nat.le_of_ble_eq_true rfl) ?_
  exact W.vret hx hb hr (fun t ht hW => ⟨⟨(q0, q1, q2), rfl, trivial, by rw [ht]; exact hP, hD⟩, hS.F ht⟩) hS.2.2 dX0_init_28
