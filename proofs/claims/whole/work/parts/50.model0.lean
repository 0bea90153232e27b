/-! the constructor of SieveBenchModel -/
def row0 : Nat → Int32 := fun j => if j = 20 then 500 else if j = 21 then 20 else if j = 22 then 2 else if j = 23 then 5 else if 32 ≤ j ∧ j < 49 ∧ j % 2 = 0 then 1000 else 0
def mdW (G : KG) (u : Nat → Nat) : va_W := [(u 0, .inr (4, [.ref (u 1), .ref (u 2), .int 0, .ref (u 3), .int 0, .ref (u 4), .ref (u 5), .int 0])), (u 1, .inl (G.2.2.2.1 5, 137, .inl row0)), (u 2, ints0 G 822), (u 3, .inl (G.2.2.2.1 8, 80, .inl (fun _ => 0))), (u 4, ints0 G 137), (u 5, ints0 G 10)]
theorem md_close {G : KG} {A : Nat → Prop} {H : Heap} {h0 q1 q2 q3 q4 q5 : Nat} (hP : va_P (G.2.1, G.2.2.1) vwCl [(h0, .inr (4, [.ref q1, .ref q2, .int 0, .ref q3, .int 0, .ref q4, .ref q5, .int 0])), (q1, .inl (G.2.2.2.1 5, 137, .inl (upd (upd (upd (upd (upd (upd (upd (upd (upd (upd (upd (upd (upd (fun _ => 0) (20 : Int32).toNatClampNeg 500) (21 : Int32).toNatClampNeg 20) (22 : Int32).toNatClampNeg 2) (23 : Int32).toNatClampNeg 5) (31 + 2 * 0 + 1 : Int32).toNatClampNeg 1000) (31 + 2 * 1 + 1 : Int32).toNatClampNeg 1000) (31 + 2 * 2 + 1 : Int32).toNatClampNeg 1000) (31 + 2 * 3 + 1 : Int32).toNatClampNeg 1000) (31 + 2 * 4 + 1 : Int32).toNatClampNeg 1000) (31 + 2 * 5 + 1 : Int32).toNatClampNeg 1000) (31 + 2 * 6 + 1 : Int32).toNatClampNeg 1000) (31 + 2 * 7 + 1 : Int32).toNatClampNeg 1000) (31 + 2 * 8 + 1 : Int32).toNatClampNeg 1000))), (q2, ints0 G 822), (q3, .inl (G.2.2.2.1 8, 80, .inl (fun _ => 0))), (q4, ints0 G 137), (q5, ints0 G 10)] H) (hD : va_D A [(h0, .inr (4, [.ref q1, .ref q2, .int 0, .ref q3, .int 0, .ref q4, .ref q5, .int 0])), (q1, .inl (G.2.2.2.1 5, 137, .inl (upd (upd (upd (upd (upd (upd (upd (upd (upd (upd (upd (upd (upd (fun _ => 0) (20 : Int32).toNatClampNeg 500) (21 : Int32).toNatClampNeg 20) (22 : Int32).toNatClampNeg 2) (23 : Int32).toNatClampNeg 5) (31 + 2 * 0 + 1 : Int32).toNatClampNeg 1000) (31 + 2 * 1 + 1 : Int32).toNatClampNeg 1000) (31 + 2 * 2 + 1 : Int32).toNatClampNeg 1000) (31 + 2 * 3 + 1 : Int32).toNatClampNeg 1000) (31 + 2 * 4 + 1 : Int32).toNatClampNeg 1000) (31 + 2 * 5 + 1 : Int32).toNatClampNeg 1000) (31 + 2 * 6 + 1 : Int32).toNatClampNeg 1000) (31 + 2 * 7 + 1 : Int32).toNatClampNeg 1000) (31 + 2 * 8 + 1 : Int32).toNatClampNeg 1000))), (q2, ints0 G 822), (q3, .inl (G.2.2.2.1 8, 80, .inl (fun _ => 0))), (q4, ints0 G 137), (q5, ints0 G 10)]) : va_P (G.2.1, G.2.2.1) vwCl (mdW G (fun k => [h0, q1, q2, q3, q4, q5].getD k 0)) H ∧ va_D A (mdW G (fun k => [h0, q1, q2, q3, q4, q5].getD k 0)) :=
  ⟨hP.snd (Or.inr (Or.inl ⟨_, _, _, _, rfl, rfl, by decide +kernel⟩)), hD.fst rfl⟩
set_option maxHeartbeats 8000000 in
set_option maxRecDepth 20000 in
theorem c_X4_init (l : Launch) (G : KG) (h0 sz : Nat) : Met l yX4_init (.code yX4_init cX4_init 2 none :: kgT) ({ frames := 1, cells := 5, slots := 1186, locals := 12 }) (mkP (G.2.1, G.2.2.1) 4 [.null, .null, .int 0, .null, .int 0, .null, .null, .int 0] (kK G) h0 sz) (mkQ (G.2.1, G.2.2.1) 4 [.null, .null, .int 0, .null, .int 0, .null, .null, .int 0] (fun q u => u 0 = q) (fun (_ : Nat) (u : Nat → Nat) => mdW G u) h0 sz) 5 1186 (va_A [(h0, .inr (4, [.null, .null, .int 0, .null, .int 0, .null, .null, .int 0]))] sz) := by
  refine Met.ofW (cc := cX4_init) (maxL := 2) (ret := none) (by decide) rfl ?_
  intro p e s m args below meth c s₁ B hml hv
  obtain ⟨rfl, hsz, hP, hKK, hD0⟩ := hv
  have hK := hKK.1
  have hx := B.exec
  have hb := B.bytes
  have hr := B.returns
  have hts0 := atoms_spec (ws := .code yX4_init cX4_init 2 none :: kgT) B.pre
  have hts : ∀ w ∈ kgT, w.before #[Value.ref h0] s = true := fun w hw => hts0 w (List.mem_cons_of_mem _ hw)
  have hown : s.vm.findClass RX4 = some m.cls := findClass_of_methodNamed B.named
  have hlocks := B.notSynchronized
  have hin : meth.name = "<init>" := (name_of_methodNamed B.named B.method).1
  subst hsz
  have hD := hD0.self (sz := s.heap.size)
  unfold mkQ
  generalize hAe : va_A [(h0, .inr (4, [.null, .null, .int 0, .null, .int 0, .null, .null, .int 0]))] s.heap.size = A at hD ⊢
  have hA : ∀ q : Nat, s.heap.size ≤ q → A q := fun q h => by rw [← hAe]; exact Or.inr h
  have hS : va_S A s.heap s.heap [] := va_S.rf
  have hl := lv_entry ([.ref h0]) (n := 2) (Nat.le_of_ble_eq_true rfl)
  rw [lg_entry_eq]
  generalize (lg_sl ([.ref h0]) ++ List.replicate (2 - (lg_sl ([.ref h0])).length) Slot.unset).toArray = ls at hl ⊢
  have hl : lv_has ls 2 [(0, .ref h0)] := hl
  refine lv_aload_n hx hb dX4_init_0 rfl (lv_at hl 0 rfl) ?_
  refine W.objInit hx hb hown (hts _ wcO_4) (hts _ wcO_i) (hts _ wcO_c) rfl (by rw [hml]; exact hl.1) rfl dX4_init_1 (Nat.le_of_ble_eq_true rfl) (Nat.le_of_ble_eq_true rfl) ?_
  refine W.eq (g2 := F0 m 4 ls []) rfl ?_
  refine lv_aload_n hx hb dX4_init_4 rfl (lv_at hl 0 rfl) ?_
  refine lv_sipush (v := 137) hx hb dX4_init_5 (by decide) ?_
  refine va_newa (atype := .int) (ty := .int) (N' := 137) (a0 := (137, .inl (fun _ => 0))) hx hb (hts _ wcA_int) rfl hK hP hD hS hA (fun cA => rfl) (by decide) (by decide) (Nat.le_of_ble_eq_true rfl) (Nat.le_of_ble_eq_true rfl) (Nat.le_of_ble_eq_true rfl) dX4_init_8 (fun q1 cA H hK2 hP hD hS => ?_)
  have ec : cA = G.2.2.2.1 5 := k_uniq 0 hK2 rfl
  subst ec
  clear hK2
  have hP : va_P (G.2.1, G.2.2.1) vwCl [(h0, .inr (4, [.null, .null, .int 0, .null, .int 0, .null, .null, .int 0])), (q1, .inl (G.2.2.2.1 5, 137, .inl (fun _ => 0)))] H := hP
  have hD : va_D A [(h0, .inr (4, [.null, .null, .int 0, .null, .int 0, .null, .null, .int 0])), (q1, .inl (G.2.2.2.1 5, 137, .inl (fun _ => 0)))] := hD
  refine va_putF (D := (G.2.1, G.2.2.1)) (ci := 4) (v := .ref q1) (ty := .array .int) (C := RX4) (T := TX4) (N := 8) hx hb hts hin4 tyX4 tyX4_ok nmX4 hown hK hP hD hS 0 rfl rfl 0 (by decide) (hts _ wcF_4_s) (fun _ h9 => h9) rfl hin rfl (by decide +kernel) rfl rfl (Nat.le_of_ble_eq_true rfl) dX4_init_10 (fun H locs hP hD hS => ?_)
  have hP : va_P (G.2.1, G.2.2.1) vwCl [(h0, .inr (4, [.ref q1, .null, .int 0, .null, .int 0, .null, .null, .int 0])), (q1, .inl (G.2.2.2.1 5, 137, .inl (fun _ => 0)))] H := hP
  have hD : va_D A [(h0, .inr (4, [.ref q1, .null, .int 0, .null, .int 0, .null, .null, .int 0])), (q1, .inl (G.2.2.2.1 5, 137, .inl (fun _ => 0)))] := hD
  refine lv_aload_n hx hb dX4_init_13 rfl (lv_at hl 0 rfl) ?_
  refine lv_sipush (v := 822) hx hb dX4_init_14 (by decide) ?_
  refine va_newa (atype := .int) (ty := .int) (N' := 822) (a0 := (822, .inl (fun _ => 0))) hx hb (hts _ wcA_int) rfl hK hP hD hS hA (fun cA => rfl) (by decide) (by decide) (Nat.le_of_ble_eq_true rfl) (Nat.le_of_ble_eq_true rfl) (Nat.le_of_ble_eq_true rfl) dX4_init_17 (fun q2 cA H hK2 hP hD hS => ?_)
  have ec : cA = G.2.2.2.1 5 := k_uniq 0 hK2 rfl
  subst ec
  clear hK2
  have hP : va_P (G.2.1, G.2.2.1) vwCl [(h0, .inr (4, [.ref q1, .null, .int 0, .null, .int 0, .null, .null, .int 0])), (q1, .inl (G.2.2.2.1 5, 137, .inl (fun _ => 0))), (q2, .inl (G.2.2.2.1 5, 822, .inl (fun _ => 0)))] H := hP
  have hD : va_D A [(h0, .inr (4, [.ref q1, .null, .int 0, .null, .int 0, .null, .null, .int 0])), (q1, .inl (G.2.2.2.1 5, 137, .inl (fun _ => 0))), (q2, .inl (G.2.2.2.1 5, 822, .inl (fun _ => 0)))] := hD
  refine va_putF (D := (G.2.1, G.2.2.1)) (ci := 4) (v := .ref q2) (ty := .array .int) (C := RX4) (T := TX4) (N := 8) hx hb hts hin4 tyX4 tyX4_ok nmX4 hown hK hP hD hS 0 rfl rfl 1 (by decide) (hts _ wcF_4_past) (fun _ h9 => h9) rfl hin rfl (by decide +kernel) rfl rfl (Nat.le_of_ble_eq_true rfl) dX4_init_19 (fun H locs hP hD hS => ?_)
  have hP : va_P (G.2.1, G.2.2.1) vwCl [(h0, .inr (4, [.ref q1, .ref q2, .int 0, .null, .int 0, .null, .null, .int 0])), (q1, .inl (G.2.2.2.1 5, 137, .inl (fun _ => 0))), (q2, .inl (G.2.2.2.1 5, 822, .inl (fun _ => 0)))] H := hP
  have hD : va_D A [(h0, .inr (4, [.ref q1, .ref q2, .int 0, .null, .int 0, .null, .null, .int 0])), (q1, .inl (G.2.2.2.1 5, 137, .inl (fun _ => 0))), (q2, .inl (G.2.2.2.1 5, 822, .inl (fun _ => 0)))] := hD
  refine lv_aload_n hx hb dX4_init_22 rfl (lv_at hl 0 rfl) ?_
  refine lv_bipush (v := 80) hx hb dX4_init_23 (by decide) ?_
  refine va_newa (atype := .byte) (ty := .byte) (N' := 80) (a0 := (80, .inl (fun _ => 0))) hx hb (hts _ wcA_byte) rfl hK hP hD hS hA (fun cA => rfl) (by decide) (by decide) (Nat.le_of_ble_eq_true rfl) (Nat.le_of_ble_eq_true rfl) (Nat.le_of_ble_eq_true rfl) dX4_init_25 (fun q3 cA H hK2 hP hD hS => ?_)
  have ec : cA = G.2.2.2.1 8 := k_uniq 3 hK2 rfl
  subst ec
  clear hK2
  have hP : va_P (G.2.1, G.2.2.1) vwCl [(h0, .inr (4, [.ref q1, .ref q2, .int 0, .null, .int 0, .null, .null, .int 0])), (q1, .inl (G.2.2.2.1 5, 137, .inl (fun _ => 0))), (q2, .inl (G.2.2.2.1 5, 822, .inl (fun _ => 0))), (q3, .inl (G.2.2.2.1 8, 80, .inl (fun _ => 0)))] H := hP
  have hD : va_D A [(h0, .inr (4, [.ref q1, .ref q2, .int 0, .null, .int 0, .null, .null, .int 0])), (q1, .inl (G.2.2.2.1 5, 137, .inl (fun _ => 0))), (q2, .inl (G.2.2.2.1 5, 822, .inl (fun _ => 0))), (q3, .inl (G.2.2.2.1 8, 80, .inl (fun _ => 0)))] := hD
  refine va_putF (D := (G.2.1, G.2.2.1)) (ci := 4) (v := .ref q3) (ty := .array .byte) (C := RX4) (T := TX4) (N := 8) hx hb hts hin4 tyX4 tyX4_ok nmX4 hown hK hP hD hS 0 rfl rfl 3 (by decide) (hts _ wcF_4_text) (fun _ h9 => h9) rfl hin rfl (by decide +kernel) rfl rfl (Nat.le_of_ble_eq_true rfl) dX4_init_27 (fun H locs hP hD hS => ?_)
  have hP : va_P (G.2.1, G.2.2.1) vwCl [(h0, .inr (4, [.ref q1, .ref q2, .int 0, .ref q3, .int 0, .null, .null, .int 0])), (q1, .inl (G.2.2.2.1 5, 137, .inl (fun _ => 0))), (q2, .inl (G.2.2.2.1 5, 822, .inl (fun _ => 0))), (q3, .inl (G.2.2.2.1 8, 80, .inl (fun _ => 0)))] H := hP
  have hD : va_D A [(h0, .inr (4, [.ref q1, .ref q2, .int 0, .ref q3, .int 0, .null, .null, .int 0])), (q1, .inl (G.2.2.2.1 5, 137, .inl (fun _ => 0))), (q2, .inl (G.2.2.2.1 5, 822, .inl (fun _ => 0))), (q3, .inl (G.2.2.2.1 8, 80, .inl (fun _ => 0)))] := hD
  refine lv_aload_n hx hb dX4_init_30 rfl (lv_at hl 0 rfl) ?_
  refine lv_sipush (v := 137) hx hb dX4_init_31 (by decide) ?_
  refine va_newa (atype := .int) (ty := .int) (N' := 137) (a0 := (137, .inl (fun _ => 0))) hx hb (hts _ wcA_int) rfl hK hP hD hS hA (fun cA => rfl) (by decide) (by decide) (Nat.le_of_ble_eq_true rfl) (Nat.le_of_ble_eq_true rfl) (Nat.le_of_ble_eq_true rfl) dX4_init_34 (fun q4 cA H hK2 hP hD hS => ?_)
  have ec : cA = G.2.2.2.1 5 := k_uniq 0 hK2 rfl
  subst ec
  clear hK2
  have hP : va_P (G.2.1, G.2.2.1) vwCl [(h0, .inr (4, [.ref q1, .ref q2, .int 0, .ref q3, .int 0, .null, .null, .int 0])), (q1, .inl (G.2.2.2.1 5, 137, .inl (fun _ => 0))), (q2, .inl (G.2.2.2.1 5, 822, .inl (fun _ => 0))), (q3, .inl (G.2.2.2.1 8, 80, .inl (fun _ => 0))), (q4, .inl (G.2.2.2.1 5, 137, .inl (fun _ => 0)))] H := hP
  have hD : va_D A [(h0, .inr (4, [.ref q1, .ref q2, .int 0, .ref q3, .int 0, .null, .null, .int 0])), (q1, .inl (G.2.2.2.1 5, 137, .inl (fun _ => 0))), (q2, .inl (G.2.2.2.1 5, 822, .inl (fun _ => 0))), (q3, .inl (G.2.2.2.1 8, 80, .inl (fun _ => 0))), (q4, .inl (G.2.2.2.1 5, 137, .inl (fun _ => 0)))] := hD
  refine va_putF (D := (G.2.1, G.2.2.1)) (ci := 4) (v := .ref q4) (ty := .array .int) (C := RX4) (T := TX4) (N := 8) hx hb hts hin4 tyX4 tyX4_ok nmX4 hown hK hP hD hS 0 rfl rfl 5 (by decide) (hts _ wcF_4_kept) (fun _ h9 => h9) rfl hin rfl (by decide +kernel) rfl rfl (Nat.le_of_ble_eq_true rfl) dX4_init_36 (fun H locs hP hD hS => ?_)
  have hP : va_P (G.2.1, G.2.2.1) vwCl [(h0, .inr (4, [.ref q1, .ref q2, .int 0, .ref q3, .int 0, .ref q4, .null, .int 0])), (q1, .inl (G.2.2.2.1 5, 137, .inl (fun _ => 0))), (q2, .inl (G.2.2.2.1 5, 822, .inl (fun _ => 0))), (q3, .inl (G.2.2.2.1 8, 80, .inl (fun _ => 0))), (q4, .inl (G.2.2.2.1 5, 137, .inl (fun _ => 0)))] H := hP
  have hD : va_D A [(h0, .inr (4, [.ref q1, .ref q2, .int 0, .ref q3, .int 0, .ref q4, .null, .int 0])), (q1, .inl (G.2.2.2.1 5, 137, .inl (fun _ => 0))), (q2, .inl (G.2.2.2.1 5, 822, .inl (fun _ => 0))), (q3, .inl (G.2.2.2.1 8, 80, .inl (fun _ => 0))), (q4, .inl (G.2.2.2.1 5, 137, .inl (fun _ => 0)))] := hD
  refine lv_aload_n hx hb dX4_init_39 rfl (lv_at hl 0 rfl) ?_
  refine lv_bipush (v := 10) hx hb dX4_init_40 (by decide) ?_
  refine va_newa (atype := .int) (ty := .int) (N' := 10) (a0 := (10, .inl (fun _ => 0))) hx hb (hts _ wcA_int) rfl hK hP hD hS hA (fun cA => rfl) (by decide) (by decide) (Nat.le_of_ble_eq_true rfl) (Nat.le_of_ble_eq_true rfl) (Nat.le_of_ble_eq_true rfl) dX4_init_42 (fun q5 cA H hK2 hP hD hS => ?_)
  have ec : cA = G.2.2.2.1 5 := k_uniq 0 hK2 rfl
  subst ec
  clear hK2
  have hP : va_P (G.2.1, G.2.2.1) vwCl [(h0, .inr (4, [.ref q1, .ref q2, .int 0, .ref q3, .int 0, .ref q4, .null, .int 0])), (q1, .inl (G.2.2.2.1 5, 137, .inl (fun _ => 0))), (q2, .inl (G.2.2.2.1 5, 822, .inl (fun _ => 0))), (q3, .inl (G.2.2.2.1 8, 80, .inl (fun _ => 0))), (q4, .inl (G.2.2.2.1 5, 137, .inl (fun _ => 0))), (q5, .inl (G.2.2.2.1 5, 10, .inl (fun _ => 0)))] H := hP
  have hD : va_D A [(h0, .inr (4, [.ref q1, .ref q2, .int 0, .ref q3, .int 0, .ref q4, .null, .int 0])), (q1, .inl (G.2.2.2.1 5, 137, .inl (fun _ => 0))), (q2, .inl (G.2.2.2.1 5, 822, .inl (fun _ => 0))), (q3, .inl (G.2.2.2.1 8, 80, .inl (fun _ => 0))), (q4, .inl (G.2.2.2.1 5, 137, .inl (fun _ => 0))), (q5, .inl (G.2.2.2.1 5, 10, .inl (fun _ => 0)))] := hD
  refine va_putF (D := (G.2.1, G.2.2.1)) (ci := 4) (v := .ref q5) (ty := .array .int) (C := RX4) (T := TX4) (N := 8) hx hb hts hin4 tyX4 tyX4_ok nmX4 hown hK hP hD hS 0 rfl rfl 6 (by decide) (hts _ wcF_4_told) (fun _ h9 => h9) rfl hin rfl (by decide +kernel) rfl rfl (Nat.le_of_ble_eq_true rfl) dX4_init_44 (fun H locs hP hD hS => ?_)
  have hP : va_P (G.2.1, G.2.2.1) vwCl [(h0, .inr (4, [.ref q1, .ref q2, .int 0, .ref q3, .int 0, .ref q4, .ref q5, .int 0])), (q1, .inl (G.2.2.2.1 5, 137, .inl (fun _ => 0))), (q2, .inl (G.2.2.2.1 5, 822, .inl (fun _ => 0))), (q3, .inl (G.2.2.2.1 8, 80, .inl (fun _ => 0))), (q4, .inl (G.2.2.2.1 5, 137, .inl (fun _ => 0))), (q5, .inl (G.2.2.2.1 5, 10, .inl (fun _ => 0)))] H := hP
  have hD : va_D A [(h0, .inr (4, [.ref q1, .ref q2, .int 0, .ref q3, .int 0, .ref q4, .ref q5, .int 0])), (q1, .inl (G.2.2.2.1 5, 137, .inl (fun _ => 0))), (q2, .inl (G.2.2.2.1 5, 822, .inl (fun _ => 0))), (q3, .inl (G.2.2.2.1 8, 80, .inl (fun _ => 0))), (q4, .inl (G.2.2.2.1 5, 137, .inl (fun _ => 0))), (q5, .inl (G.2.2.2.1 5, 10, .inl (fun _ => 0)))] := hD
  refine lv_aload_n hx hb dX4_init_47 rfl (lv_at hl 0 rfl) ?_
  refine va_get (D := (G.2.1, G.2.2.1)) (ci := 4) (v := .ref q1) (C := RX4) (T := TX4) (N := 8) hx hb hts hin4 hown hK hP 0 rfl rfl 0 (by decide) (hts _ wcF_4_s) (fun _ h9 => h9) rfl dX4_init_48 ?_
  refine lv_bipush (v := 20) hx hb dX4_init_51 (by decide) ?_
  refine lv_sipush (v := 500) hx hb dX4_init_53 (by decide) ?_
  refine va_iast hx hb hK hP hD hS 1 0 rfl rfl (i := 20) (kin_in (by decide +kernel)) dX4_init_56 (fun H locs hP hD hS => ?_)
  have hP : va_P (G.2.1, G.2.2.1) vwCl [(h0, .inr (4, [.ref q1, .ref q2, .int 0, .ref q3, .int 0, .ref q4, .ref q5, .int 0])), (q1, .inl (G.2.2.2.1 5, 137, .inl (upd (fun _ => 0) (20 : Int32).toNatClampNeg 500))), (q2, .inl (G.2.2.2.1 5, 822, .inl (fun _ => 0))), (q3, .inl (G.2.2.2.1 8, 80, .inl (fun _ => 0))), (q4, .inl (G.2.2.2.1 5, 137, .inl (fun _ => 0))), (q5, .inl (G.2.2.2.1 5, 10, .inl (fun _ => 0)))] H := hP
  have hD : va_D A [(h0, .inr (4, [.ref q1, .ref q2, .int 0, .ref q3, .int 0, .ref q4, .ref q5, .int 0])), (q1, .inl (G.2.2.2.1 5, 137, .inl (upd (fun _ => 0) (20 : Int32).toNatClampNeg 500))), (q2, .inl (G.2.2.2.1 5, 822, .inl (fun _ => 0))), (q3, .inl (G.2.2.2.1 8, 80, .inl (fun _ => 0))), (q4, .inl (G.2.2.2.1 5, 137, .inl (fun _ => 0))), (q5, .inl (G.2.2.2.1 5, 10, .inl (fun _ => 0)))] := hD
  refine lv_aload_n hx hb dX4_init_57 rfl (lv_at hl 0 rfl) ?_
  refine va_get (D := (G.2.1, G.2.2.1)) (ci := 4) (v := .ref q1) (C := RX4) (T := TX4) (N := 8) hx hb hts hin4 hown hK hP 0 rfl rfl 0 (by decide) (hts _ wcF_4_s) (fun _ h9 => h9) rfl dX4_init_58 ?_
  refine lv_bipush (v := 21) hx hb dX4_init_61 (by decide) ?_
  refine lv_bipush (v := 20) hx hb dX4_init_63 (by decide) ?_
  refine va_iast hx hb hK hP hD hS 1 0 rfl rfl (i := 21) (kin_in (by decide +kernel)) dX4_init_65 (fun H locs hP hD hS => ?_)
  have hP : va_P (G.2.1, G.2.2.1) vwCl [(h0, .inr (4, [.ref q1, .ref q2, .int 0, .ref q3, .int 0, .ref q4, .ref q5, .int 0])), (q1, .inl (G.2.2.2.1 5, 137, .inl (upd (upd (fun _ => 0) (20 : Int32).toNatClampNeg 500) (21 : Int32).toNatClampNeg 20))), (q2, .inl (G.2.2.2.1 5, 822, .inl (fun _ => 0))), (q3, .inl (G.2.2.2.1 8, 80, .inl (fun _ => 0))), (q4, .inl (G.2.2.2.1 5, 137, .inl (fun _ => 0))), (q5, .inl (G.2.2.2.1 5, 10, .inl (fun _ => 0)))] H := hP
  have hD : va_D A [(h0, .inr (4, [.ref q1, .ref q2, .int 0, .ref q3, .int 0, .ref q4, .ref q5, .int 0])), (q1, .inl (G.2.2.2.1 5, 137, .inl (upd (upd (fun _ => 0) (20 : Int32).toNatClampNeg 500) (21 : Int32).toNatClampNeg 20))), (q2, .inl (G.2.2.2.1 5, 822, .inl (fun _ => 0))), (q3, .inl (G.2.2.2.1 8, 80, .inl (fun _ => 0))), (q4, .inl (G.2.2.2.1 5, 137, .inl (fun _ => 0))), (q5, .inl (G.2.2.2.1 5, 10, .inl (fun _ => 0)))] := hD
  refine lv_aload_n hx hb dX4_init_66 rfl (lv_at hl 0 rfl) ?_
  refine va_get (D := (G.2.1, G.2.2.1)) (ci := 4) (v := .ref q1) (C := RX4) (T := TX4) (N := 8) hx hb hts hin4 hown hK hP 0 rfl rfl 0 (by decide) (hts _ wcF_4_s) (fun _ h9 => h9) rfl dX4_init_67 ?_
  refine lv_bipush (v := 22) hx hb dX4_init_70 (by decide) ?_
  refine lv_iconst (v := 2) hx hb dX4_init_72 (by decide) ?_
  refine va_iast hx hb hK hP hD hS 1 0 rfl rfl (i := 22) (kin_in (by decide +kernel)) dX4_init_73 (fun H locs hP hD hS => ?_)
  have hP : va_P (G.2.1, G.2.2.1) vwCl [(h0, .inr (4, [.ref q1, .ref q2, .int 0, .ref q3, .int 0, .ref q4, .ref q5, .int 0])), (q1, .inl (G.2.2.2.1 5, 137, .inl (upd (upd (upd (fun _ => 0) (20 : Int32).toNatClampNeg 500) (21 : Int32).toNatClampNeg 20) (22 : Int32).toNatClampNeg 2))), (q2, .inl (G.2.2.2.1 5, 822, .inl (fun _ => 0))), (q3, .inl (G.2.2.2.1 8, 80, .inl (fun _ => 0))), (q4, .inl (G.2.2.2.1 5, 137, .inl (fun _ => 0))), (q5, .inl (G.2.2.2.1 5, 10, .inl (fun _ => 0)))] H := hP
  have hD : va_D A [(h0, .inr (4, [.ref q1, .ref q2, .int 0, .ref q3, .int 0, .ref q4, .ref q5, .int 0])), (q1, .inl (G.2.2.2.1 5, 137, .inl (upd (upd (upd (fun _ => 0) (20 : Int32).toNatClampNeg 500) (21 : Int32).toNatClampNeg 20) (22 : Int32).toNatClampNeg 2))), (q2, .inl (G.2.2.2.1 5, 822, .inl (fun _ => 0))), (q3, .inl (G.2.2.2.1 8, 80, .inl (fun _ => 0))), (q4, .inl (G.2.2.2.1 5, 137, .inl (fun _ => 0))), (q5, .inl (G.2.2.2.1 5, 10, .inl (fun _ => 0)))] := hD
  refine lv_aload_n hx hb dX4_init_74 rfl (lv_at hl 0 rfl) ?_
  refine va_get (D := (G.2.1, G.2.2.1)) (ci := 4) (v := .ref q1) (C := RX4) (T := TX4) (N := 8) hx hb hts hin4 hown hK hP 0 rfl rfl 0 (by decide) (hts _ wcF_4_s) (fun _ h9 => h9) rfl dX4_init_75 ?_
  refine lv_bipush (v := 23) hx hb dX4_init_78 (by decide) ?_
  refine lv_iconst (v := 5) hx hb dX4_init_80 (by decide) ?_
  refine va_iast hx hb hK hP hD hS 1 0 rfl rfl (i := 23) (kin_in (by decide +kernel)) dX4_init_81 (fun H locs hP hD hS => ?_)
  have hP : va_P (G.2.1, G.2.2.1) vwCl [(h0, .inr (4, [.ref q1, .ref q2, .int 0, .ref q3, .int 0, .ref q4, .ref q5, .int 0])), (q1, .inl (G.2.2.2.1 5, 137, .inl (upd (upd (upd (upd (fun _ => 0) (20 : Int32).toNatClampNeg 500) (21 : Int32).toNatClampNeg 20) (22 : Int32).toNatClampNeg 2) (23 : Int32).toNatClampNeg 5))), (q2, .inl (G.2.2.2.1 5, 822, .inl (fun _ => 0))), (q3, .inl (G.2.2.2.1 8, 80, .inl (fun _ => 0))), (q4, .inl (G.2.2.2.1 5, 137, .inl (fun _ => 0))), (q5, .inl (G.2.2.2.1 5, 10, .inl (fun _ => 0)))] H := hP
  have hD : va_D A [(h0, .inr (4, [.ref q1, .ref q2, .int 0, .ref q3, .int 0, .ref q4, .ref q5, .int 0])), (q1, .inl (G.2.2.2.1 5, 137, .inl (upd (upd (upd (upd (fun _ => 0) (20 : Int32).toNatClampNeg 500) (21 : Int32).toNatClampNeg 20) (22 : Int32).toNatClampNeg 2) (23 : Int32).toNatClampNeg 5))), (q2, .inl (G.2.2.2.1 5, 822, .inl (fun _ => 0))), (q3, .inl (G.2.2.2.1 8, 80, .inl (fun _ => 0))), (q4, .inl (G.2.2.2.1 5, 137, .inl (fun _ => 0))), (q5, .inl (G.2.2.2.1 5, 10, .inl (fun _ => 0)))] := hD
  refine lv_iconst (v := 0) hx hb dX4_init_82 (by decide) ?_
  refine lv_istore_n (lv' := [(1, .int 0), (0, .ref h0)]) hx hb dX4_init_83 rfl hl (by decide) rfl (fun ls hl => ?_)
  refine lv_iload_n hx hb dX4_init_84 rfl (lv_at hl 0 rfl) ?_
  refine lv_bipush (v := 9) hx hb dX4_init_85 (by decide) ?_
  refine lv_icmp_ge (tgt := 112) hx hb dX4_init_87 (by decide) (fun z => absurd z (by decide)) (fun _ => ?_)
  refine lv_aload_n hx hb dX4_init_90 rfl (lv_at hl 1 rfl) ?_
  refine va_get (D := (G.2.1, G.2.2.1)) (ci := 4) (v := .ref q1) (C := RX4) (T := TX4) (N := 8) hx hb hts hin4 hown hK hP 0 rfl rfl 0 (by decide) (hts _ wcF_4_s) (fun _ h9 => h9) rfl dX4_init_91 ?_
  refine lv_bipush (v := 31) hx hb dX4_init_94 (by decide) ?_
  refine lv_iconst (v := 2) hx hb dX4_init_96 (by decide) ?_
  refine lv_iload_n hx hb dX4_init_97 rfl (lv_at hl 0 rfl) ?_
  refine lv_imul hx hb dX4_init_98 ?_
  refine lv_iadd hx hb dX4_init_99 ?_
  refine lv_iconst (v := 1) hx hb dX4_init_100 (by decide) ?_
  refine lv_iadd hx hb dX4_init_101 ?_
  refine lv_sipush (v := 1000) hx hb dX4_init_102 (by decide) ?_
  refine va_iast hx hb hK hP hD hS 1 0 rfl rfl (i := 31 + 2 * 0 + 1) (kin_in (by decide +kernel)) dX4_init_105 (fun H locs hP hD hS => ?_)
  have hP : va_P (G.2.1, G.2.2.1) vwCl [(h0, .inr (4, [.ref q1, .ref q2, .int 0, .ref q3, .int 0, .ref q4, .ref q5, .int 0])), (q1, .inl (G.2.2.2.1 5, 137, .inl (upd (upd (upd (upd (upd (fun _ => 0) (20 : Int32).toNatClampNeg 500) (21 : Int32).toNatClampNeg 20) (22 : Int32).toNatClampNeg 2) (23 : Int32).toNatClampNeg 5) (31 + 2 * 0 + 1 : Int32).toNatClampNeg 1000))), (q2, .inl (G.2.2.2.1 5, 822, .inl (fun _ => 0))), (q3, .inl (G.2.2.2.1 8, 80, .inl (fun _ => 0))), (q4, .inl (G.2.2.2.1 5, 137, .inl (fun _ => 0))), (q5, .inl (G.2.2.2.1 5, 10, .inl (fun _ => 0)))] H := hP
  have hD : va_D A [(h0, .inr (4, [.ref q1, .ref q2, .int 0, .ref q3, .int 0, .ref q4, .ref q5, .int 0])), (q1, .inl (G.2.2.2.1 5, 137, .inl (upd (upd (upd (upd (upd (fun _ => 0) (20 : Int32).toNatClampNeg 500) (21 : Int32).toNatClampNeg 20) (22 : Int32).toNatClampNeg 2) (23 : Int32).toNatClampNeg 5) (31 + 2 * 0 + 1 : Int32).toNatClampNeg 1000))), (q2, .inl (G.2.2.2.1 5, 822, .inl (fun _ => 0))), (q3, .inl (G.2.2.2.1 8, 80, .inl (fun _ => 0))), (q4, .inl (G.2.2.2.1 5, 137, .inl (fun _ => 0))), (q5, .inl (G.2.2.2.1 5, 10, .inl (fun _ => 0)))] := hD
  refine lv_iinc (v := 1) (lv' := [(1, .int 1), (0, .ref h0)]) hx hb dX4_init_106 hl (k := 0) rfl (by decide) (by decide) rfl (fun ls hl => ?_)
  refine lv_goto (tgt := 84) hx hb dX4_init_109 (by decide) ?_
  refine lv_iload_n hx hb dX4_init_84 rfl (lv_at hl 0 rfl) ?_
  refine lv_bipush (v := 9) hx hb dX4_init_85 (by decide) ?_
  refine lv_icmp_ge (tgt := 112) hx hb dX4_init_87 (by decide) (fun z => absurd z (by decide)) (fun _ => ?_)
  refine lv_aload_n hx hb dX4_init_90 rfl (lv_at hl 1 rfl) ?_
  refine va_get (D := (G.2.1, G.2.2.1)) (ci := 4) (v := .ref q1) (C := RX4) (T := TX4) (N := 8) hx hb hts hin4 hown hK hP 0 rfl rfl 0 (by decide) (hts _ wcF_4_s) (fun _ h9 => h9) rfl dX4_init_91 ?_
  refine lv_bipush (v := 31) hx hb dX4_init_94 (by decide) ?_
  refine lv_iconst (v := 2) hx hb dX4_init_96 (by decide) ?_
  refine lv_iload_n hx hb dX4_init_97 rfl (lv_at hl 0 rfl) ?_
  refine lv_imul hx hb dX4_init_98 ?_
  refine lv_iadd hx hb dX4_init_99 ?_
  refine lv_iconst (v := 1) hx hb dX4_init_100 (by decide) ?_
  refine lv_iadd hx hb dX4_init_101 ?_
  refine lv_sipush (v := 1000) hx hb dX4_init_102 (by decide) ?_
  refine va_iast hx hb hK hP hD hS 1 0 rfl rfl (i := 31 + 2 * 1 + 1) (kin_in (by decide +kernel)) dX4_init_105 (fun H locs hP hD hS => ?_)
  have hP : va_P (G.2.1, G.2.2.1) vwCl [(h0, .inr (4, [.ref q1, .ref q2, .int 0, .ref q3, .int 0, .ref q4, .ref q5, .int 0])), (q1, .inl (G.2.2.2.1 5, 137, .inl (upd (upd (upd (upd (upd (upd (fun _ => 0) (20 : Int32).toNatClampNeg 500) (21 : Int32).toNatClampNeg 20) (22 : Int32).toNatClampNeg 2) (23 : Int32).toNatClampNeg 5) (31 + 2 * 0 + 1 : Int32).toNatClampNeg 1000) (31 + 2 * 1 + 1 : Int32).toNatClampNeg 1000))), (q2, .inl (G.2.2.2.1 5, 822, .inl (fun _ => 0))), (q3, .inl (G.2.2.2.1 8, 80, .inl (fun _ => 0))), (q4, .inl (G.2.2.2.1 5, 137, .inl (fun _ => 0))), (q5, .inl (G.2.2.2.1 5, 10, .inl (fun _ => 0)))] H := hP
  have hD : va_D A [(h0, .inr (4, [.ref q1, .ref q2, .int 0, .ref q3, .int 0, .ref q4, .ref q5, .int 0])), (q1, .inl (G.2.2.2.1 5, 137, .inl (upd (upd (upd (upd (upd (upd (fun _ => 0) (20 : Int32).toNatClampNeg 500) (21 : Int32).toNatClampNeg 20) (22 : Int32).toNatClampNeg 2) (23 : Int32).toNatClampNeg 5) (31 + 2 * 0 + 1 : Int32).toNatClampNeg 1000) (31 + 2 * 1 + 1 : Int32).toNatClampNeg 1000))), (q2, .inl (G.2.2.2.1 5, 822, .inl (fun _ => 0))), (q3, .inl (G.2.2.2.1 8, 80, .inl (fun _ => 0))), (q4, .inl (G.2.2.2.1 5, 137, .inl (fun _ => 0))), (q5, .inl (G.2.2.2.1 5, 10, .inl (fun _ => 0)))] := hD
  refine lv_iinc (v := 2) (lv' := [(1, .int 2), (0, .ref h0)]) hx hb dX4_init_106 hl (k := 0) rfl (by decide) (by decide) rfl (fun ls hl => ?_)
  refine lv_goto (tgt := 84) hx hb dX4_init_109 (by decide) ?_
  refine lv_iload_n hx hb dX4_init_84 rfl (lv_at hl 0 rfl) ?_
  refine lv_bipush (v := 9) hx hb dX4_init_85 (by decide) ?_
  refine lv_icmp_ge (tgt := 112) hx hb dX4_init_87 (by decide) (fun z => absurd z (by decide)) (fun _ => ?_)
  refine lv_aload_n hx hb dX4_init_90 rfl (lv_at hl 1 rfl) ?_
  refine va_get (D := (G.2.1, G.2.2.1)) (ci := 4) (v := .ref q1) (C := RX4) (T := TX4) (N := 8) hx hb hts hin4 hown hK hP 0 rfl rfl 0 (by decide) (hts _ wcF_4_s) (fun _ h9 => h9) rfl dX4_init_91 ?_
  refine lv_bipush (v := 31) hx hb dX4_init_94 (by decide) ?_
  refine lv_iconst (v := 2) hx hb dX4_init_96 (by decide) ?_
  refine lv_iload_n hx hb dX4_init_97 rfl (lv_at hl 0 rfl) ?_
  refine lv_imul hx hb dX4_init_98 ?_
  refine lv_iadd hx hb dX4_init_99 ?_
  refine lv_iconst (v := 1) hx hb dX4_init_100 (by decide) ?_
  refine lv_iadd hx hb dX4_init_101 ?_
  refine lv_sipush (v := 1000) hx hb dX4_init_102 (by decide) ?_
  refine va_iast hx hb hK hP hD hS 1 0 rfl rfl (i := 31 + 2 * 2 + 1) (kin_in (by decide +kernel)) dX4_init_105 (fun H locs hP hD hS => ?_)
  have hP : va_P (G.2.1, G.2.2.1) vwCl [(h0, .inr (4, [.ref q1, .ref q2, .int 0, .ref q3, .int 0, .ref q4, .ref q5, .int 0])), (q1, .inl (G.2.2.2.1 5, 137, .inl (upd (upd (upd (upd (upd (upd (upd (fun _ => 0) (20 : Int32).toNatClampNeg 500) (21 : Int32).toNatClampNeg 20) (22 : Int32).toNatClampNeg 2) (23 : Int32).toNatClampNeg 5) (31 + 2 * 0 + 1 : Int32).toNatClampNeg 1000) (31 + 2 * 1 + 1 : Int32).toNatClampNeg 1000) (31 + 2 * 2 + 1 : Int32).toNatClampNeg 1000))), (q2, .inl (G.2.2.2.1 5, 822, .inl (fun _ => 0))), (q3, .inl (G.2.2.2.1 8, 80, .inl (fun _ => 0))), (q4, .inl (G.2.2.2.1 5, 137, .inl (fun _ => 0))), (q5, .inl (G.2.2.2.1 5, 10, .inl (fun _ => 0)))] H := hP
  have hD : va_D A [(h0, .inr (4, [.ref q1, .ref q2, .int 0, .ref q3, .int 0, .ref q4, .ref q5, .int 0])), (q1, .inl (G.2.2.2.1 5, 137, .inl (upd (upd (upd (upd (upd (upd (upd (fun _ => 0) (20 : Int32).toNatClampNeg 500) (21 : Int32).toNatClampNeg 20) (22 : Int32).toNatClampNeg 2) (23 : Int32).toNatClampNeg 5) (31 + 2 * 0 + 1 : Int32).toNatClampNeg 1000) (31 + 2 * 1 + 1 : Int32).toNatClampNeg 1000) (31 + 2 * 2 + 1 : Int32).toNatClampNeg 1000))), (q2, .inl (G.2.2.2.1 5, 822, .inl (fun _ => 0))), (q3, .inl (G.2.2.2.1 8, 80, .inl (fun _ => 0))), (q4, .inl (G.2.2.2.1 5, 137, .inl (fun _ => 0))), (q5, .inl (G.2.2.2.1 5, 10, .inl (fun _ => 0)))] := hD
  refine lv_iinc (v := 3) (lv' := [(1, .int 3), (0, .ref h0)]) hx hb dX4_init_106 hl (k := 0) rfl (by decide) (by decide) rfl (fun ls hl => ?_)
  refine lv_goto (tgt := 84) hx hb dX4_init_109 (by decide) ?_
  refine lv_iload_n hx hb dX4_init_84 rfl (lv_at hl 0 rfl) ?_
  refine lv_bipush (v := 9) hx hb dX4_init_85 (by decide) ?_
  refine lv_icmp_ge (tgt := 112) hx hb dX4_init_87 (by decide) (fun z => absurd z (by decide)) (fun _ => ?_)
  refine lv_aload_n hx hb dX4_init_90 rfl (lv_at hl 1 rfl) ?_
  refine va_get (D := (G.2.1, G.2.2.1)) (ci := 4) (v := .ref q1) (C := RX4) (T := TX4) (N := 8) hx hb hts hin4 hown hK hP 0 rfl rfl 0 (by decide) (hts _ wcF_4_s) (fun _ h9 => h9) rfl dX4_init_91 ?_
  refine lv_bipush (v := 31) hx hb dX4_init_94 (by decide) ?_
  refine lv_iconst (v := 2) hx hb dX4_init_96 (by decide) ?_
  refine lv_iload_n hx hb dX4_init_97 rfl (lv_at hl 0 rfl) ?_
  refine lv_imul hx hb dX4_init_98 ?_
  refine lv_iadd hx hb dX4_init_99 ?_
  refine lv_iconst (v := 1) hx hb dX4_init_100 (by decide) ?_
  refine lv_iadd hx hb dX4_init_101 ?_
  refine lv_sipush (v := 1000) hx hb dX4_init_102 (by decide) ?_
  refine va_iast hx hb hK hP hD hS 1 0 rfl rfl (i := 31 + 2 * 3 + 1) (kin_in (by decide +kernel)) dX4_init_105 (fun H locs hP hD hS => ?_)
  have hP : va_P (G.2.1, G.2.2.1) vwCl [(h0, .inr (4, [.ref q1, .ref q2, .int 0, .ref q3, .int 0, .ref q4, .ref q5, .int 0])), (q1, .inl (G.2.2.2.1 5, 137, .inl (upd (upd (upd (upd (upd (upd (upd (upd (fun _ => 0) (20 : Int32).toNatClampNeg 500) (21 : Int32).toNatClampNeg 20) (22 : Int32).toNatClampNeg 2) (23 : Int32).toNatClampNeg 5) (31 + 2 * 0 + 1 : Int32).toNatClampNeg 1000) (31 + 2 * 1 + 1 : Int32).toNatClampNeg 1000) (31 + 2 * 2 + 1 : Int32).toNatClampNeg 1000) (31 + 2 * 3 + 1 : Int32).toNatClampNeg 1000))), (q2, .inl (G.2.2.2.1 5, 822, .inl (fun _ => 0))), (q3, .inl (G.2.2.2.1 8, 80, .inl (fun _ => 0))), (q4, .inl (G.2.2.2.1 5, 137, .inl (fun _ => 0))), (q5, .inl (G.2.2.2.1 5, 10, .inl (fun _ => 0)))] H := hP
  have hD : va_D A [(h0, .inr (4, [.ref q1, .ref q2, .int 0, .ref q3, .int 0, .ref q4, .ref q5, .int 0])), (q1, .inl (G.2.2.2.1 5, 137, .inl (upd (upd (upd (upd (upd (upd (upd (upd (fun _ => 0) (20 : Int32).toNatClampNeg 500) (21 : Int32).toNatClampNeg 20) (22 : Int32).toNatClampNeg 2) (23 : Int32).toNatClampNeg 5) (31 + 2 * 0 + 1 : Int32).toNatClampNeg 1000) (31 + 2 * 1 + 1 : Int32).toNatClampNeg 1000) (31 + 2 * 2 + 1 : Int32).toNatClampNeg 1000) (31 + 2 * 3 + 1 : Int32).toNatClampNeg 1000))), (q2, .inl (G.2.2.2.1 5, 822, .inl (fun _ => 0))), (q3, .inl (G.2.2.2.1 8, 80, .inl (fun _ => 0))), (q4, .inl (G.2.2.2.1 5, 137, .inl (fun _ => 0))), (q5, .inl (G.2.2.2.1 5, 10, .inl (fun _ => 0)))] := hD
  refine lv_iinc (v := 4) (lv' := [(1, .int 4), (0, .ref h0)]) hx hb dX4_init_106 hl (k := 0) rfl (by decide) (by decide) rfl (fun ls hl => ?_)
  refine lv_goto (tgt := 84) hx hb dX4_init_109 (by decide) ?_
  refine lv_iload_n hx hb dX4_init_84 rfl (lv_at hl 0 rfl) ?_
  refine lv_bipush (v := 9) hx hb dX4_init_85 (by decide) ?_
  refine lv_icmp_ge (tgt := 112) hx hb dX4_init_87 (by decide) (fun z => absurd z (by decide)) (fun _ => ?_)
  refine lv_aload_n hx hb dX4_init_90 rfl (lv_at hl 1 rfl) ?_
  refine va_get (D := (G.2.1, G.2.2.1)) (ci := 4) (v := .ref q1) (C := RX4) (T := TX4) (N := 8) hx hb hts hin4 hown hK hP 0 rfl rfl 0 (by decide) (hts _ wcF_4_s) (fun _ h9 => h9) rfl dX4_init_91 ?_
  refine lv_bipush (v := 31) hx hb dX4_init_94 (by decide) ?_
  refine lv_iconst (v := 2) hx hb dX4_init_96 (by decide) ?_
  refine lv_iload_n hx hb dX4_init_97 rfl (lv_at hl 0 rfl) ?_
  refine lv_imul hx hb dX4_init_98 ?_
  refine lv_iadd hx hb dX4_init_99 ?_
  refine lv_iconst (v := 1) hx hb dX4_init_100 (by decide) ?_
  refine lv_iadd hx hb dX4_init_101 ?_
  refine lv_sipush (v := 1000) hx hb dX4_init_102 (by decide) ?_
  refine va_iast hx hb hK hP hD hS 1 0 rfl rfl (i := 31 + 2 * 4 + 1) (kin_in (by decide +kernel)) dX4_init_105 (fun H locs hP hD hS => ?_)
  have hP : va_P (G.2.1, G.2.2.1) vwCl [(h0, .inr (4, [.ref q1, .ref q2, .int 0, .ref q3, .int 0, .ref q4, .ref q5, .int 0])), (q1, .inl (G.2.2.2.1 5, 137, .inl (upd (upd (upd (upd (upd (upd (upd (upd (upd (fun _ => 0) (20 : Int32).toNatClampNeg 500) (21 : Int32).toNatClampNeg 20) (22 : Int32).toNatClampNeg 2) (23 : Int32).toNatClampNeg 5) (31 + 2 * 0 + 1 : Int32).toNatClampNeg 1000) (31 + 2 * 1 + 1 : Int32).toNatClampNeg 1000) (31 + 2 * 2 + 1 : Int32).toNatClampNeg 1000) (31 + 2 * 3 + 1 : Int32).toNatClampNeg 1000) (31 + 2 * 4 + 1 : Int32).toNatClampNeg 1000))), (q2, .inl (G.2.2.2.1 5, 822, .inl (fun _ => 0))), (q3, .inl (G.2.2.2.1 8, 80, .inl (fun _ => 0))), (q4, .inl (G.2.2.2.1 5, 137, .inl (fun _ => 0))), (q5, .inl (G.2.2.2.1 5, 10, .inl (fun _ => 0)))] H := hP
  have hD : va_D A [(h0, .inr (4, [.ref q1, .ref q2, .int 0, .ref q3, .int 0, .ref q4, .ref q5, .int 0])), (q1, .inl (G.2.2.2.1 5, 137, .inl (upd (upd (upd (upd (upd (upd (upd (upd (upd (fun _ => 0) (20 : Int32).toNatClampNeg 500) (21 : Int32).toNatClampNeg 20) (22 : Int32).toNatClampNeg 2) (23 : Int32).toNatClampNeg 5) (31 + 2 * 0 + 1 : Int32).toNatClampNeg 1000) (31 + 2 * 1 + 1 : Int32).toNatClampNeg 1000) (31 + 2 * 2 + 1 : Int32).toNatClampNeg 1000) (31 + 2 * 3 + 1 : Int32).toNatClampNeg 1000) (31 + 2 * 4 + 1 : Int32).toNatClampNeg 1000))), (q2, .inl (G.2.2.2.1 5, 822, .inl (fun _ => 0))), (q3, .inl (G.2.2.2.1 8, 80, .inl (fun _ => 0))), (q4, .inl (G.2.2.2.1 5, 137, .inl (fun _ => 0))), (q5, .inl (G.2.2.2.1 5, 10, .inl (fun _ => 0)))] := hD
  refine lv_iinc (v := 5) (lv' := [(1, .int 5), (0, .ref h0)]) hx hb dX4_init_106 hl (k := 0) rfl (by decide) (by decide) rfl (fun ls hl => ?_)
  refine lv_goto (tgt := 84) hx hb dX4_init_109 (by decide) ?_
  refine lv_iload_n hx hb dX4_init_84 rfl (lv_at hl 0 rfl) ?_
  refine lv_bipush (v := 9) hx hb dX4_init_85 (by decide) ?_
  refine lv_icmp_ge (tgt := 112) hx hb dX4_init_87 (by decide) (fun z => absurd z (by decide)) (fun _ => ?_)
  refine lv_aload_n hx hb dX4_init_90 rfl (lv_at hl 1 rfl) ?_
  refine va_get (D := (G.2.1, G.2.2.1)) (ci := 4) (v := .ref q1) (C := RX4) (T := TX4) (N := 8) hx hb hts hin4 hown hK hP 0 rfl rfl 0 (by decide) (hts _ wcF_4_s) (fun _ h9 => h9) rfl dX4_init_91 ?_
  refine lv_bipush (v := 31) hx hb dX4_init_94 (by decide) ?_
  refine lv_iconst (v := 2) hx hb dX4_init_96 (by decide) ?_
  refine lv_iload_n hx hb dX4_init_97 rfl (lv_at hl 0 rfl) ?_
  refine lv_imul hx hb dX4_init_98 ?_
  refine lv_iadd hx hb dX4_init_99 ?_
  refine lv_iconst (v := 1) hx hb dX4_init_100 (by decide) ?_
  refine lv_iadd hx hb dX4_init_101 ?_
  refine lv_sipush (v := 1000) hx hb dX4_init_102 (by decide) ?_
  refine va_iast hx hb hK hP hD hS 1 0 rfl rfl (i := 31 + 2 * 5 + 1) (kin_in (by decide +kernel)) dX4_init_105 (fun H locs hP hD hS => ?_)
  have hP : va_P (G.2.1, G.2.2.1) vwCl [(h0, .inr (4, [.ref q1, .ref q2, .int 0, .ref q3, .int 0, .ref q4, .ref q5, .int 0])), (q1, .inl (G.2.2.2.1 5, 137, .inl (upd (upd (upd (upd (upd (upd (upd (upd (upd (upd (fun _ => 0) (20 : Int32).toNatClampNeg 500) (21 : Int32).toNatClampNeg 20) (22 : Int32).toNatClampNeg 2) (23 : Int32).toNatClampNeg 5) (31 + 2 * 0 + 1 : Int32).toNatClampNeg 1000) (31 + 2 * 1 + 1 : Int32).toNatClampNeg 1000) (31 + 2 * 2 + 1 : Int32).toNatClampNeg 1000) (31 + 2 * 3 + 1 : Int32).toNatClampNeg 1000) (31 + 2 * 4 + 1 : Int32).toNatClampNeg 1000) (31 + 2 * 5 + 1 : Int32).toNatClampNeg 1000))), (q2, .inl (G.2.2.2.1 5, 822, .inl (fun _ => 0))), (q3, .inl (G.2.2.2.1 8, 80, .inl (fun _ => 0))), (q4, .inl (G.2.2.2.1 5, 137, .inl (fun _ => 0))), (q5, .inl (G.2.2.2.1 5, 10, .inl (fun _ => 0)))] H := hP
  have hD : va_D A [(h0, .inr (4, [.ref q1, .ref q2, .int 0, .ref q3, .int 0, .ref q4, .ref q5, .int 0])), (q1, .inl (G.2.2.2.1 5, 137, .inl (upd (upd (upd (upd (upd (upd (upd (upd (upd (upd (fun _ => 0) (20 : Int32).toNatClampNeg 500) (21 : Int32).toNatClampNeg 20) (22 : Int32).toNatClampNeg 2) (23 : Int32).toNatClampNeg 5) (31 + 2 * 0 + 1 : Int32).toNatClampNeg 1000) (31 + 2 * 1 + 1 : Int32).toNatClampNeg 1000) (31 + 2 * 2 + 1 : Int32).toNatClampNeg 1000) (31 + 2 * 3 + 1 : Int32).toNatClampNeg 1000) (31 + 2 * 4 + 1 : Int32).toNatClampNeg 1000) (31 + 2 * 5 + 1 : Int32).toNatClampNeg 1000))), (q2, .inl (G.2.2.2.1 5, 822, .inl (fun _ => 0))), (q3, .inl (G.2.2.2.1 8, 80, .inl (fun _ => 0))), (q4, .inl (G.2.2.2.1 5, 137, .inl (fun _ => 0))), (q5, .inl (G.2.2.2.1 5, 10, .inl (fun _ => 0)))] := hD
  refine lv_iinc (v := 6) (lv' := [(1, .int 6), (0, .ref h0)]) hx hb dX4_init_106 hl (k := 0) rfl (by decide) (by decide) rfl (fun ls hl => ?_)
  refine lv_goto (tgt := 84) hx hb dX4_init_109 (by decide) ?_
  refine lv_iload_n hx hb dX4_init_84 rfl (lv_at hl 0 rfl) ?_
  refine lv_bipush (v := 9) hx hb dX4_init_85 (by decide) ?_
  refine lv_icmp_ge (tgt := 112) hx hb dX4_init_87 (by decide) (fun z => absurd z (by decide)) (fun _ => ?_)
  refine lv_aload_n hx hb dX4_init_90 rfl (lv_at hl 1 rfl) ?_
  refine va_get (D := (G.2.1, G.2.2.1)) (ci := 4) (v := .ref q1) (C := RX4) (T := TX4) (N := 8) hx hb hts hin4 hown hK hP 0 rfl rfl 0 (by decide) (hts _ wcF_4_s) (fun _ h9 => h9) rfl dX4_init_91 ?_
  refine lv_bipush (v := 31) hx hb dX4_init_94 (by decide) ?_
  refine lv_iconst (v := 2) hx hb dX4_init_96 (by decide) ?_
  refine lv_iload_n hx hb dX4_init_97 rfl (lv_at hl 0 rfl) ?_
  refine lv_imul hx hb dX4_init_98 ?_
  refine lv_iadd hx hb dX4_init_99 ?_
  refine lv_iconst (v := 1) hx hb dX4_init_100 (by decide) ?_
  refine lv_iadd hx hb dX4_init_101 ?_
  refine lv_sipush (v := 1000) hx hb dX4_init_102 (by decide) ?_
  refine va_iast hx hb hK hP hD hS 1 0 rfl rfl (i := 31 + 2 * 6 + 1) (kin_in (by decide +kernel)) dX4_init_105 (fun H locs hP hD hS => ?_)
  have hP : va_P (G.2.1, G.2.2.1) vwCl [(h0, .inr (4, [.ref q1, .ref q2, .int 0, .ref q3, .int 0, .ref q4, .ref q5, .int 0])), (q1, .inl (G.2.2.2.1 5, 137, .inl (upd (upd (upd (upd (upd (upd (upd (upd (upd (upd (upd (fun _ => 0) (20 : Int32).toNatClampNeg 500) (21 : Int32).toNatClampNeg 20) (22 : Int32).toNatClampNeg 2) (23 : Int32).toNatClampNeg 5) (31 + 2 * 0 + 1 : Int32).toNatClampNeg 1000) (31 + 2 * 1 + 1 : Int32).toNatClampNeg 1000) (31 + 2 * 2 + 1 : Int32).toNatClampNeg 1000) (31 + 2 * 3 + 1 : Int32).toNatClampNeg 1000) (31 + 2 * 4 + 1 : Int32).toNatClampNeg 1000) (31 + 2 * 5 + 1 : Int32).toNatClampNeg 1000) (31 + 2 * 6 + 1 : Int32).toNatClampNeg 1000))), (q2, .inl (G.2.2.2.1 5, 822, .inl (fun _ => 0))), (q3, .inl (G.2.2.2.1 8, 80, .inl (fun _ => 0))), (q4, .inl (G.2.2.2.1 5, 137, .inl (fun _ => 0))), (q5, .inl (G.2.2.2.1 5, 10, .inl (fun _ => 0)))] H := hP
  have hD : va_D A [(h0, .inr (4, [.ref q1, .ref q2, .int 0, .ref q3, .int 0, .ref q4, .ref q5, .int 0])), (q1, .inl (G.2.2.2.1 5, 137, .inl (upd (upd (upd (upd (upd (upd (upd (upd (upd (upd (upd (fun _ => 0) (20 : Int32).toNatClampNeg 500) (21 : Int32).toNatClampNeg 20) (22 : Int32).toNatClampNeg 2) (23 : Int32).toNatClampNeg 5) (31 + 2 * 0 + 1 : Int32).toNatClampNeg 1000) (31 + 2 * 1 + 1 : Int32).toNatClampNeg 1000) (31 + 2 * 2 + 1 : Int32).toNatClampNeg 1000) (31 + 2 * 3 + 1 : Int32).toNatClampNeg 1000) (31 + 2 * 4 + 1 : Int32).toNatClampNeg 1000) (31 + 2 * 5 + 1 : Int32).toNatClampNeg 1000) (31 + 2 * 6 + 1 : Int32).toNatClampNeg 1000))), (q2, .inl (G.2.2.2.1 5, 822, .inl (fun _ => 0))), (q3, .inl (G.2.2.2.1 8, 80, .inl (fun _ => 0))), (q4, .inl (G.2.2.2.1 5, 137, .inl (fun _ => 0))), (q5, .inl (G.2.2.2.1 5, 10, .inl (fun _ => 0)))] := hD
  refine lv_iinc (v := 7) (lv' := [(1, .int 7), (0, .ref h0)]) hx hb dX4_init_106 hl (k := 0) rfl (by decide) (by decide) rfl (fun ls hl => ?_)
  refine lv_goto (tgt := 84) hx hb dX4_init_109 (by decide) ?_
  refine lv_iload_n hx hb dX4_init_84 rfl (lv_at hl 0 rfl) ?_
  refine lv_bipush (v := 9) hx hb dX4_init_85 (by decide) ?_
  refine lv_icmp_ge (tgt := 112) hx hb dX4_init_87 (by decide) (fun z => absurd z (by decide)) (fun _ => ?_)
  refine lv_aload_n hx hb dX4_init_90 rfl (lv_at hl 1 rfl) ?_
  refine va_get (D := (G.2.1, G.2.2.1)) (ci := 4) (v := .ref q1) (C := RX4) (T := TX4) (N := 8) hx hb hts hin4 hown hK hP 0 rfl rfl 0 (by decide) (hts _ wcF_4_s) (fun _ h9 => h9) rfl dX4_init_91 ?_
  refine lv_bipush (v := 31) hx hb dX4_init_94 (by decide) ?_
  refine lv_iconst (v := 2) hx hb dX4_init_96 (by decide) ?_
  refine lv_iload_n hx hb dX4_init_97 rfl (lv_at hl 0 rfl) ?_
  refine lv_imul hx hb dX4_init_98 ?_
  refine lv_iadd hx hb dX4_init_99 ?_
  refine lv_iconst (v := 1) hx hb dX4_init_100 (by decide) ?_
  refine lv_iadd hx hb dX4_init_101 ?_
  refine lv_sipush (v := 1000) hx hb dX4_init_102 (by decide) ?_
  refine va_iast hx hb hK hP hD hS 1 0 rfl rfl (i := 31 + 2 * 7 + 1) (kin_in (by decide +kernel)) dX4_init_105 (fun H locs hP hD hS => ?_)
  have hP : va_P (G.2.1, G.2.2.1) vwCl [(h0, .inr (4, [.ref q1, .ref q2, .int 0, .ref q3, .int 0, .ref q4, .ref q5, .int 0])), (q1, .inl (G.2.2.2.1 5, 137, .inl (upd (upd (upd (upd (upd (upd (upd (upd (upd (upd (upd (upd (fun _ => 0) (20 : Int32).toNatClampNeg 500) (21 : Int32).toNatClampNeg 20) (22 : Int32).toNatClampNeg 2) (23 : Int32).toNatClampNeg 5) (31 + 2 * 0 + 1 : Int32).toNatClampNeg 1000) (31 + 2 * 1 + 1 : Int32).toNatClampNeg 1000) (31 + 2 * 2 + 1 : Int32).toNatClampNeg 1000) (31 + 2 * 3 + 1 : Int32).toNatClampNeg 1000) (31 + 2 * 4 + 1 : Int32).toNatClampNeg 1000) (31 + 2 * 5 + 1 : Int32).toNatClampNeg 1000) (31 + 2 * 6 + 1 : Int32).toNatClampNeg 1000) (31 + 2 * 7 + 1 : Int32).toNatClampNeg 1000))), (q2, .inl (G.2.2.2.1 5, 822, .inl (fun _ => 0))), (q3, .inl (G.2.2.2.1 8, 80, .inl (fun _ => 0))), (q4, .inl (G.2.2.2.1 5, 137, .inl (fun _ => 0))), (q5, .inl (G.2.2.2.1 5, 10, .inl (fun _ => 0)))] H := hP
  have hD : va_D A [(h0, .inr (4, [.ref q1, .ref q2, .int 0, .ref q3, .int 0, .ref q4, .ref q5, .int 0])), (q1, .inl (G.2.2.2.1 5, 137, .inl (upd (upd (upd (upd (upd (upd (upd (upd (upd (upd (upd (upd (fun _ => 0) (20 : Int32).toNatClampNeg 500) (21 : Int32).toNatClampNeg 20) (22 : Int32).toNatClampNeg 2) (23 : Int32).toNatClampNeg 5) (31 + 2 * 0 + 1 : Int32).toNatClampNeg 1000) (31 + 2 * 1 + 1 : Int32).toNatClampNeg 1000) (31 + 2 * 2 + 1 : Int32).toNatClampNeg 1000) (31 + 2 * 3 + 1 : Int32).toNatClampNeg 1000) (31 + 2 * 4 + 1 : Int32).toNatClampNeg 1000) (31 + 2 * 5 + 1 : Int32).toNatClampNeg 1000) (31 + 2 * 6 + 1 : Int32).toNatClampNeg 1000) (31 + 2 * 7 + 1 : Int32).toNatClampNeg 1000))), (q2, .inl (G.2.2.2.1 5, 822, .inl (fun _ => 0))), (q3, .inl (G.2.2.2.1 8, 80, .inl (fun _ => 0))), (q4, .inl (G.2.2.2.1 5, 137, .inl (fun _ => 0))), (q5, .inl (G.2.2.2.1 5, 10, .inl (fun _ => 0)))] := hD
  refine lv_iinc (v := 8) (lv' := [(1, .int 8), (0, .ref h0)]) hx hb dX4_init_106 hl (k := 0) rfl (by decide) (by decide) rfl (fun ls hl => ?_)
  refine lv_goto (tgt := 84) hx hb dX4_init_109 (by decide) ?_
  refine lv_iload_n hx hb dX4_init_84 rfl (lv_at hl 0 rfl) ?_
  refine lv_bipush (v := 9) hx hb dX4_init_85 (by decide) ?_
  refine lv_icmp_ge (tgt := 112) hx hb dX4_init_87 (by decide) (fun z => absurd z (by decide)) (fun _ => ?_)
  refine lv_aload_n hx hb dX4_init_90 rfl (lv_at hl 1 rfl) ?_
  refine va_get (D := (G.2.1, G.2.2.1)) (ci := 4) (v := .ref q1) (C := RX4) (T := TX4) (N := 8) hx hb hts hin4 hown hK hP 0 rfl rfl 0 (by decide) (hts _ wcF_4_s) (fun _ h9 => h9) rfl dX4_init_91 ?_
  refine lv_bipush (v := 31) hx hb dX4_init_94 (by decide) ?_
  refine lv_iconst (v := 2) hx hb dX4_init_96 (by decide) ?_
  refine lv_iload_n hx hb dX4_init_97 rfl (lv_at hl 0 rfl) ?_
  refine lv_imul hx hb dX4_init_98 ?_
  refine lv_iadd hx hb dX4_init_99 ?_
  refine lv_iconst (v := 1) hx hb dX4_init_100 (by decide) ?_
  refine lv_iadd hx hb dX4_init_101 ?_
  refine lv_sipush (v := 1000) hx hb dX4_init_102 (by decide) ?_
  refine va_iast hx hb hK hP hD hS 1 0 rfl rfl (i := 31 + 2 * 8 + 1) (kin_in (by decide +kernel)) dX4_init_105 (fun H locs hP hD hS => ?_)
  have hP : va_P (G.2.1, G.2.2.1) vwCl [(h0, .inr (4, [.ref q1, .ref q2, .int 0, .ref q3, .int 0, .ref q4, .ref q5, .int 0])), (q1, .inl (G.2.2.2.1 5, 137, .inl (upd (upd (upd (upd (upd (upd (upd (upd (upd (upd (upd (upd (upd (fun _ => 0) (20 : Int32).toNatClampNeg 500) (21 : Int32).toNatClampNeg 20) (22 : Int32).toNatClampNeg 2) (23 : Int32).toNatClampNeg 5) (31 + 2 * 0 + 1 : Int32).toNatClampNeg 1000) (31 + 2 * 1 + 1 : Int32).toNatClampNeg 1000) (31 + 2 * 2 + 1 : Int32).toNatClampNeg 1000) (31 + 2 * 3 + 1 : Int32).toNatClampNeg 1000) (31 + 2 * 4 + 1 : Int32).toNatClampNeg 1000) (31 + 2 * 5 + 1 : Int32).toNatClampNeg 1000) (31 + 2 * 6 + 1 : Int32).toNatClampNeg 1000) (31 + 2 * 7 + 1 : Int32).toNatClampNeg 1000) (31 + 2 * 8 + 1 : Int32).toNatClampNeg 1000))), (q2, .inl (G.2.2.2.1 5, 822, .inl (fun _ => 0))), (q3, .inl (G.2.2.2.1 8, 80, .inl (fun _ => 0))), (q4, .inl (G.2.2.2.1 5, 137, .inl (fun _ => 0))), (q5, .inl (G.2.2.2.1 5, 10, .inl (fun _ => 0)))] H := hP
  have hD : va_D A [(h0, .inr (4, [.ref q1, .ref q2, .int 0, .ref q3, .int 0, .ref q4, .ref q5, .int 0])), (q1, .inl (G.2.2.2.1 5, 137, .inl (upd (upd (upd (upd (upd (upd (upd (upd (upd (upd (upd (upd (upd (fun _ => 0) (20 : Int32).toNatClampNeg 500) (21 : Int32).toNatClampNeg 20) (22 : Int32).toNatClampNeg 2) (23 : Int32).toNatClampNeg 5) (31 + 2 * 0 + 1 : Int32).toNatClampNeg 1000) (31 + 2 * 1 + 1 : Int32).toNatClampNeg 1000) (31 + 2 * 2 + 1 : Int32).toNatClampNeg 1000) (31 + 2 * 3 + 1 : Int32).toNatClampNeg 1000) (31 + 2 * 4 + 1 : Int32).toNatClampNeg 1000) (31 + 2 * 5 + 1 : Int32).toNatClampNeg 1000) (31 + 2 * 6 + 1 : Int32).toNatClampNeg 1000) (31 + 2 * 7 + 1 : Int32).toNatClampNeg 1000) (31 + 2 * 8 + 1 : Int32).toNatClampNeg 1000))), (q2, .inl (G.2.2.2.1 5, 822, .inl (fun _ => 0))), (q3, .inl (G.2.2.2.1 8, 80, .inl (fun _ => 0))), (q4, .inl (G.2.2.2.1 5, 137, .inl (fun _ => 0))), (q5, .inl (G.2.2.2.1 5, 10, .inl (fun _ => 0)))] := hD
  refine lv_iinc (v := 9) (lv' := [(1, .int 9), (0, .ref h0)]) hx hb dX4_init_106 hl (k := 0) rfl (by decide) (by decide) rfl (fun ls hl => ?_)
  refine lv_goto (tgt := 84) hx hb dX4_init_109 (by decide) ?_
  refine lv_iload_n hx hb dX4_init_84 rfl (lv_at hl 0 rfl) ?_
  refine lv_bipush (v := 9) hx hb dX4_init_85 (by decide) ?_
  refine lv_icmp_ge (tgt := 112) hx hb dX4_init_87 (by decide) (fun _ => ?_) (fun z => absurd (by decide) z)
  refine W.widen (k := 5) (n := 1186) (Nat.le_of_ble_eq_true rfl) (Nat.le_of_ble_eq_true rfl) ?_
  obtain ⟨hP9, hD9⟩ := md_close hP hD
  exact W.vret hx hb hr (fun t ht hW => ⟨⟨_, rfl, rfl, by rw [ht]; exact hP9, hD9⟩, hS.F ht⟩) hS.2.2 dX4_init_112
