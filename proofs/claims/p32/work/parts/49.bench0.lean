/-! the constructor of SieveBench -/
theorem defS : ∀ j, j < 14 → defaultValue (tyX1 j) = vp_V [.null, .null, .null, .null, .null, .int 0, .int 0, .int 0, .int 0, .int 0, .int 0, .int 0, .int 0, .int 0] j := fun j hj => by
  match j, hj with
  | 0, _ => rfl
  | 1, _ => rfl
  | 2, _ => rfl
  | 3, _ => rfl
  | 4, _ => rfl
  | 5, _ => rfl
  | 6, _ => rfl
  | 7, _ => rfl
  | 8, _ => rfl
  | 9, _ => rfl
  | 10, _ => rfl
  | 11, _ => rfl
  | 12, _ => rfl
  | 13, _ => rfl
theorem defX : ∀ j, j < 5 → defaultValue (tyX0 j) = vp_V [.null, .null, .null, .int 0, .int 0] j := fun j hj => by
  match j, hj with
  | 0, _ => rfl
  | 1, _ => rfl
  | 2, _ => rfl
  | 3, _ => rfl
  | 4, _ => rfl
theorem gdS : GoodIn kgT (.code yX1_init cX1_init 2 none :: kgT) := fun w hw => by
  rcases List.mem_cons.mp hw with rfl | hw
  · exact ⟨wcK_1, good_of_word (List.mem_filter.mp wcK_1).2⟩
  · exact ⟨hw, good_of_word (List.mem_filter.mp hw).2⟩
theorem gdX : GoodIn kgT (.code yX0_init cX0_init 1 none :: kgT) := fun w hw => by
  rcases List.mem_cons.mp hw with rfl | hw
  · exact ⟨wcK_0, good_of_word (List.mem_filter.mp wcK_0).2⟩
  · exact ⟨hw, good_of_word (List.mem_filter.mp hw).2⟩
theorem mkState {p : Program} {l : Launch} {e : Env} {R : Room} {s : State} {m : MethodId} {args : Array Value} {below : List Frame} {meth : Method} {c : Code} {Q : State → Prop} {G : KG} {A : Nat → Prop} {X : va_W} {H : Heap} {locs : List Loc} {kc ks pc : Nat} {ls : Array Slot} {rest : List Value}
    (cf : CallFix p m c cX3_init 2 s args kgT RX3) (hKK : k2K G s) (hP : va_P (G.2.1, G.2.2.1) vwCl X H) (hD : va_D A X) (hS : va_S A s.heap H locs) (hA : ∀ q : Nat, s.heap.size ≤ q → A q) (hls : ls.size = 2) (hrest : ((Value.ref 0 :: rest).map fun v => v.category).sum ≤ 8)
    (d1 : decode cX3_init pc = .ok (.new 7, 3)) (d2 : decode cX3_init (pc + 3) = .ok (.dup, 1)) (d3 : decode cX3_init (pc + 4) = .ok (.invokespecial 9, 3)) (hR : 3 ≤ R.frames ∧ 53 ≤ R.locals) (hcs : kc + 1 + 19 ≤ R.cells ∧ ks + 14 + 145 ≤ R.slots)
    (kk : ∀ (u : Nat → Nat) (H1 : Heap) (locs1 : List Loc), va_P (G.2.1, G.2.2.1) vwCl (X ++ stW G u) H1 → va_D A (X ++ stW G u) → va_S A s.heap H1 locs1 → W p l e R s m args below meth c H1 locs1 (kc + 1 + 19) (ks + 14 + 145) Q (F0 m (pc + 7) ls (.ref (u 0) :: rest))) :
    W p l e R s m args below meth c H locs kc ks Q (F0 m pc ls rest) := by
  have hts := cf.2.2.2.2
  refine mk_go (ty := tyX1) (post := fun q u => u 0 = q) (w := fun (_ : Nat) (u : Nat → Nat) => stW G u) (KK := k2K G) (ci := 1) (fs := [.null, .null, .null, .null, .null, .int 0, .int 0, .int 0, .int 0, .int 0, .int 0, .int 0, .int 0, .int 0]) (mc := 19) (ms := 145) cf hin1 tyX1_ok (hts _ wcC_3_1) (hts _ wcN_1) (hts _ wI_1) hKK.1.1 hP hD hS hA rfl defS (fun a U g mk h => h.blind a U g mk) (fun U hW => hKK.warm hW) d1 d2 hcs (fun q H1 hp => ?_) (fun q u H1 locs1 h0 h1 h2 h3 => by subst h0; exact kk u H1 locs1 h1 h2 h3)
  exact va_runI (As := []) (rest := .ref q :: rest) cf (c_X1_init l G q H1.size) (cwI (mc := 19) (ms := 145) 0 hts gdS rfl rfl rfl (hts _ wI_1) (hts _ wmS) (hts _ wcI_1) rfl ⟨by decide, by decide, by decide +kernel⟩ ⟨hR.1, hR.2⟩) hp rfl rfl hls rfl (by rw [show 2 * (F0 m (pc + 4) ls (.ref q :: .ref q :: rest)).monitorRoom = 0 from rfl, Nat.zero_add]; exact hrest) d3 hcs
def txW (G : KG) (q : Nat) (u : Nat × Nat × Nat) : va_W := [(q, .inr (0, [.ref u.1, .ref u.2.1, .ref u.2.2, .int 0, .int 0])), (u.1, .inl (G.2.2.2.1 6, 80, .inl (fun _ => 0))), (u.2.1, .inl (G.2.2.2.1 5, 10, .inl (fun _ => 0))), (u.2.2, .inl (G.2.2.2.1 7, 10, .inl (fun _ => 0)))]
theorem mkText {p : Program} {l : Launch} {e : Env} {R : Room} {s : State} {m : MethodId} {args : Array Value} {below : List Frame} {meth : Method} {c : Code} {Q : State → Prop} {G : KG} {A : Nat → Prop} {X : va_W} {H : Heap} {locs : List Loc} {kc ks pc : Nat} {ls : Array Slot} {rest : List Value}
    (cf : CallFix p m c cX3_init 2 s args kgT RX3) (hKK : k2K G s) (hP : va_P (G.2.1, G.2.2.1) vwCl X H) (hD : va_D A X) (hS : va_S A s.heap H locs) (hA : ∀ q : Nat, s.heap.size ≤ q → A q) (hls : ls.size = 2) (hrest : ((Value.ref 0 :: rest).map fun v => v.category).sum ≤ 8)
    (d1 : decode cX3_init pc = .ok (.new 23, 3)) (d2 : decode cX3_init (pc + 3) = .ok (.dup, 1)) (d3 : decode cX3_init (pc + 4) = .ok (.invokespecial 25, 3)) (hR : 2 ≤ R.frames ∧ 32 ≤ R.locals) (hcs : kc + 1 + 3 ≤ R.cells ∧ ks + 5 + 100 ≤ R.slots)
    (kk : ∀ (q : Nat) (u : Nat × Nat × Nat) (H1 : Heap) (locs1 : List Loc), va_P (G.2.1, G.2.2.1) vwCl (X ++ txW G q u) H1 → va_D A (X ++ txW G q u) → va_S A s.heap H1 locs1 → W p l e R s m args below meth c H1 locs1 (kc + 1 + 3) (ks + 5 + 100) Q (F0 m (pc + 7) ls (.ref q :: rest))) :
    W p l e R s m args below meth c H locs kc ks Q (F0 m pc ls rest) := by
  have hts := cf.2.2.2.2
  refine mk_go (ty := tyX0) (post := fun _ _ => True) (w := fun (q : Nat) (u : Nat × Nat × Nat) => txW G q u) (KK := kK G) (ci := 0) (fs := [.null, .null, .null, .int 0, .int 0]) (mc := 3) (ms := 100) cf hin0 tyX0_ok (hts _ wcC_3_0) (hts _ wcN_0) (hts _ wI_0) hKK.1.1 hP hD hS hA rfl defX (fun a U g mk h => h.blind a U g mk) (fun U hW => hKK.1.warm hW) d1 d2 hcs (fun q H1 hp => ?_) (fun q u H1 locs1 _ h1 h2 h3 => kk q u H1 locs1 h1 h2 h3)
  exact va_runIN (As := []) (rest := .ref q :: rest) cf (c_X0_init l G q H1.size) ⟨va_cnB (mc := 3) (ms := 100) 0 hts gdX rfl rfl rfl hKK.2.2.1 (hts _ wI_0) ⟨by decide, by decide, by decide +kernel⟩ ⟨hR.1, hR.2⟩, rfl, hts _ wcI_0⟩ hp rfl rfl hls rfl (by rw [show 2 * (F0 m (pc + 4) ls (.ref q :: .ref q :: rest)).monitorRoom = 0 from rfl, Nat.zero_add]; exact hrest) d3 hcs
theorem stW_congr {G : KG} {u v : Nat → Nat} (h : ∀ d, d < 20 → u d = v d) : stW G u = stW G v := by
  unfold stW
  rw [h 0 (by decide), h 1 (by decide), h 2 (by decide), h 3 (by decide), h 4 (by decide), h 5 (by decide), h 6 (by decide), h 7 (by decide), h 8 (by decide), h 9 (by decide), h 10 (by decide), h 11 (by decide), h 12 (by decide), h 13 (by decide), h 14 (by decide), h 15 (by decide), h 16 (by decide), h 17 (by decide), h 18 (by decide), h 19 (by decide)]
theorem pm1 {α : Type} {a b : α} {Y : List α} : (a :: b :: Y).Perm (a :: (Y ++ [b])) := List.Perm.cons a (List.perm_append_singleton b Y).symm
theorem pmx {α : Type} {b : α} {Y1 Y2 T V : List α} : (Y1 ++ (Y2 ++ (V ++ b :: T))).Perm (b :: (Y1 ++ (Y2 ++ (T ++ V)))) := by
  have h1 : (V ++ b :: T).Perm (b :: (V ++ T)) := List.perm_middle
  have h2 : (Y2 ++ (V ++ b :: T)).Perm (b :: (Y2 ++ (V ++ T))) := (List.Perm.append_left Y2 h1).trans List.perm_middle
  have h3 : (Y1 ++ (Y2 ++ (V ++ b :: T))).Perm (b :: (Y1 ++ (Y2 ++ (V ++ T)))) := (List.Perm.append_left Y1 h2).trans List.perm_middle
  exact h3.trans (List.Perm.cons b (List.Perm.append_left Y1 (List.Perm.append_left Y2 List.perm_append_comm)))
theorem ix2 {a b z : Nat × va_E} {Y Z : va_W} : (a :: b :: (Y ++ (z :: Z)))[Y.length + 2]? = some z := by simp
theorem va_P.snd {D : va_G} {cl : List vw_C} {a : Nat × va_E} {q : Nat} {x y : va_E} {Y : va_W} {H : Heap} (h : va_P D cl (a :: (q, x) :: Y) H) (e : eqE x y) : va_P D cl (a :: (q, y) :: Y) H := fun k z hk => by
  match k, hk with
  | 0, hk => exact h 0 z hk
  | 1, hk => cases hk; exact e.at (h 1 _ rfl)
  | k + 2, hk => exact h (k + 2) z hk
def stA (G : KG) (u : Nat → Nat) (o : Nat) : va_W := stW G (fun d => u (o + d))
def bnW (G : KG) (u : Nat → Nat) : va_W := (u 0, .inr (3, [.ref (u 1), .ref (u 21), .ref (u 161), .ref (u 162), .int 0, .int 0])) :: (stA G u 1 ++ (stA G u 21 ++ (stA G u 41 ++ (stA G u 61 ++ (stA G u 81 ++ (stA G u 101 ++ (stA G u 121 ++ (stA G u 141 ++ ((u 161, .inl (G.2.2.2.1 10, 6, qf (fun j => [some (u 41), some (u 61), some (u 81), some (u 101), some (u 121), some (u 141)].getD j none))) :: txW G (u 162) (u 163, u 164, u 165))))))))))
theorem bn_close {G : KG} {A : Nat → Prop} {H : Heap} {h0 qs tq : Nat} {tu : Nat × Nat × Nat} {u0 u1 u2 u3 u4 u5 u6 u7 : Nat → Nat} (hP : va_P (G.2.1, G.2.2.1) vwCl ((h0, .inr (3, [.ref (u0 0), .ref (u1 0), .ref qs, .ref tq, .int 0, .int 0])) :: (qs, .inl (G.2.2.2.1 10, 6, qf (va_up (va_up (va_up (va_up (va_up (va_up (fun _ => none) (0 : Int32).toNatClampNeg (some (u2 0))) (1 : Int32).toNatClampNeg (some (u3 0))) (2 : Int32).toNatClampNeg (some (u4 0))) (3 : Int32).toNatClampNeg (some (u5 0))) (4 : Int32).toNatClampNeg (some (u6 0))) (5 : Int32).toNatClampNeg (some (u7 0))))) :: ((((((((stW G u0 ++ stW G u1) ++ txW G tq tu) ++ stW G u2) ++ stW G u3) ++ stW G u4) ++ stW G u5) ++ stW G u6) ++ stW G u7)) H) (hD : va_D A ((h0, .inr (3, [.ref (u0 0), .ref (u1 0), .ref qs, .ref tq, .int 0, .int 0])) :: (qs, .inl (G.2.2.2.1 10, 6, qf (va_up (va_up (va_up (va_up (va_up (va_up (fun _ => none) (0 : Int32).toNatClampNeg (some (u2 0))) (1 : Int32).toNatClampNeg (some (u3 0))) (2 : Int32).toNatClampNeg (some (u4 0))) (3 : Int32).toNatClampNeg (some (u5 0))) (4 : Int32).toNatClampNeg (some (u6 0))) (5 : Int32).toNatClampNeg (some (u7 0))))) :: ((((((((stW G u0 ++ stW G u1) ++ txW G tq tu) ++ stW G u2) ++ stW G u3) ++ stW G u4) ++ stW G u5) ++ stW G u6) ++ stW G u7))) : ∃ u : Nat → Nat, u 0 = h0 ∧ va_P (G.2.1, G.2.2.1) vwCl (bnW G u) H ∧ va_D A (bnW G u) := by
  obtain ⟨u, hu⟩ : ∃ u : Nat → Nat, u = fun a => if a = 0 then h0 else if a < 161 then [u0, u1, u2, u3, u4, u5, u6, u7].getD ((a - 1) / 20) u0 ((a - 1) % 20) else [qs, tq, tu.1, tu.2.1, tu.2.2].getD (a - 161) 0 := ⟨_, rfl⟩
  have hs : ∀ i, i < 8 → ∀ d, d < 20 → u (20 * i + 1 + d) = [u0, u1, u2, u3, u4, u5, u6, u7].getD i u0 d := fun i hi d hd => by
    rw [hu]
    dsimp only
    rw [if_neg (by omega), if_pos (by omega), show (20 * i + 1 + d - 1) / 20 = i by omega, show (20 * i + 1 + d - 1) % 20 = d by omega]
  have e0 : u 0 = h0 := by rw [hu]; rfl
  have eq : u 161 = qs := by rw [hu]; rfl
  have et : u 162 = tq := by rw [hu]; rfl
  have e3 : u 163 = tu.1 := by rw [hu]; rfl
  have e4 : u 164 = tu.2.1 := by rw [hu]; rfl
  have e5 : u 165 = tu.2.2 := by rw [hu]; rfl
  have s0 : stA G u 1 = stW G u0 := stW_congr (fun d hd => hs 0 (by decide) d hd)
  have z0 : u 1 = u0 0 := hs 0 (by decide) 0 (by decide)
  have s1 : stA G u 21 = stW G u1 := stW_congr (fun d hd => hs 1 (by decide) d hd)
  have z1 : u 21 = u1 0 := hs 1 (by decide) 0 (by decide)
  have s2 : stA G u 41 = stW G u2 := stW_congr (fun d hd => hs 2 (by decide) d hd)
  have z2 : u 41 = u2 0 := hs 2 (by decide) 0 (by decide)
  have s3 : stA G u 61 = stW G u3 := stW_congr (fun d hd => hs 3 (by decide) d hd)
  have z3 : u 61 = u3 0 := hs 3 (by decide) 0 (by decide)
  have s4 : stA G u 81 = stW G u4 := stW_congr (fun d hd => hs 4 (by decide) d hd)
  have z4 : u 81 = u4 0 := hs 4 (by decide) 0 (by decide)
  have s5 : stA G u 101 = stW G u5 := stW_congr (fun d hd => hs 5 (by decide) d hd)
  have z5 : u 101 = u5 0 := hs 5 (by decide) 0 (by decide)
  have s6 : stA G u 121 = stW G u6 := stW_congr (fun d hd => hs 6 (by decide) d hd)
  have z6 : u 121 = u6 0 := hs 6 (by decide) 0 (by decide)
  have s7 : stA G u 141 = stW G u7 := stW_congr (fun d hd => hs 7 (by decide) d hd)
  have z7 : u 141 = u7 0 := hs 7 (by decide) 0 (by decide)
  have pm : (bnW G u).Perm ((h0, .inr (3, [.ref (u0 0), .ref (u1 0), .ref qs, .ref tq, .int 0, .int 0])) :: (qs, .inl (G.2.2.2.1 10, 6, qf (fun j => [some (u2 0), some (u3 0), some (u4 0), some (u5 0), some (u6 0), some (u7 0)].getD j none))) :: ((((((((stW G u0 ++ stW G u1) ++ txW G tq tu) ++ stW G u2) ++ stW G u3) ++ stW G u4) ++ stW G u5) ++ stW G u6) ++ stW G u7)) := by
    unfold bnW
    rw [s0, s1, s2, s3, s4, s5, s6, s7, z0, z1, z2, z3, z4, z5, z6, z7, e0, eq, et, e3, e4, e5]
    refine List.Perm.cons _ ?_
    have := pmx (b := ((qs, .inl (G.2.2.2.1 10, 6, qf (fun j => [some (u2 0), some (u3 0), some (u4 0), some (u5 0), some (u6 0), some (u7 0)].getD j none))) : Nat × va_E)) (Y1 := stW G u0) (Y2 := stW G u1) (T := txW G tq tu) (V := stW G u2 ++ (stW G u3 ++ (stW G u4 ++ (stW G u5 ++ (stW G u6 ++ stW G u7)))))
    simpa only [List.append_assoc] using this
  have hP2 := hP.snd (y := .inl (G.2.2.2.1 10, 6, qf (fun j => [some (u2 0), some (u3 0), some (u4 0), some (u5 0), some (u6 0), some (u7 0)].getD j none))) (Or.inr (Or.inr ⟨_, _, _, _, rfl, rfl, fun j hj => by
    match j, hj with
    | 0, _ => rfl
    | 1, _ => rfl
    | 2, _ => rfl
    | 3, _ => rfl
    | 4, _ => rfl
    | 5, _ => rfl
    ⟩))
  have hD2 : va_D A ((h0, .inr (3, [.ref (u0 0), .ref (u1 0), .ref qs, .ref tq, .int 0, .int 0])) :: (qs, .inl (G.2.2.2.1 10, 6, qf (fun j => [some (u2 0), some (u3 0), some (u4 0), some (u5 0), some (u6 0), some (u7 0)].getD j none))) :: ((((((((stW G u0 ++ stW G u1) ++ txW G tq tu) ++ stW G u2) ++ stW G u3) ++ stW G u4) ++ stW G u5) ++ stW G u6) ++ stW G u7)) := hD.fst rfl
  exact ⟨u, e0, hP2.mem (fun z hz => pm.mem_iff.mp hz), hD2.perm pm⟩
set_option maxHeartbeats 8000000 in
set_option maxRecDepth 20000 in
theorem c_X3_init (l : Launch) (G : KG) (h0 sz : Nat) : Met l yX3_init (.code yX3_init cX3_init 2 none :: kgT) ({ frames := 3, cells := 165, slots := 1383, locals := 53 }) (mkP (G.2.1, G.2.2.1) 3 [.null, .null, .null, .null, .int 0, .int 0] (k2K G) h0 sz) (mkQ (G.2.1, G.2.2.1) 3 [.null, .null, .null, .null, .int 0, .int 0] (fun q u => u 0 = q) (fun (_ : Nat) (u : Nat → Nat) => bnW G u) h0 sz) 165 1383 (va_A [(h0, .inr (3, [.null, .null, .null, .null, .int 0, .int 0]))] sz) := by
  refine Met.ofW (cc := cX3_init) (maxL := 2) (ret := none) (by decide) rfl ?_
  intro p e s m args below meth c s₁ B hml hv
  obtain ⟨rfl, hsz, hP, hKK, hD0⟩ := hv
  have hK := hKK.1.1
  have hx := B.exec
  have hb := B.bytes
  have hr := B.returns
  have hts0 := atoms_spec (ws := .code yX3_init cX3_init 2 none :: kgT) B.pre
  have hts : ∀ w ∈ kgT, w.before #[Value.ref h0] s = true := fun w hw => hts0 w (List.mem_cons_of_mem _ hw)
  have hown : s.vm.findClass RX3 = some m.cls := findClass_of_methodNamed B.named
  have hlocks := B.notSynchronized
  have hin : meth.name = "<init>" := (name_of_methodNamed B.named B.method).1
  subst hsz
  have hD := hD0.self (sz := s.heap.size)
  unfold mkQ
  generalize hAe : va_A [(h0, .inr (3, [.null, .null, .null, .null, .int 0, .int 0]))] s.heap.size = A at hD ⊢
  have hA : ∀ q : Nat, s.heap.size ≤ q → A q := fun q h => by rw [← hAe]; exact Or.inr h
  have hS : va_S A s.heap s.heap [] := va_S.rf
  have cf : CallFix p m c cX3_init 2 s #[Value.ref h0] kgT RX3 := ⟨hx, hb, hml, hown, hts⟩
  have hl := lv_entry ([.ref h0]) (n := 2) (Nat.le_of_ble_eq_true rfl)
  rw [lg_entry_eq]
  generalize (lg_sl ([.ref h0]) ++ List.replicate (2 - (lg_sl ([.ref h0])).length) Slot.unset).toArray = ls at hl ⊢
  have hl : lv_has ls 2 [(0, .ref h0)] := hl
  refine lv_aload_n hx hb dX3_init_0 rfl (lv_at hl 0 rfl) ?_
  refine W.objInit hx hb hown (hts _ wcO_3) (hts _ wcO_i) (hts _ wcO_c) rfl (by rw [hml]; exact hl.1) rfl dX3_init_1 (Nat.le_of_ble_eq_true rfl) (Nat.le_of_ble_eq_true rfl) ?_
  refine W.eq (g2 := F0 m 4 ls []) rfl ?_
  refine lv_aload_n hx hb dX3_init_4 rfl (lv_at hl 0 rfl) ?_
  refine mkState (X := [(h0, .inr (3, [.null, .null, .null, .null, .int 0, .int 0]))]) cf hKK hP hD hS hA hl.1 (Nat.le_of_ble_eq_true rfl) dX3_init_5 dX3_init_8 dX3_init_9 ⟨(Nat.le_of_ble_eq_true rfl), (Nat.le_of_ble_eq_true rfl)⟩ ⟨(Nat.le_of_ble_eq_true rfl), (Nat.le_of_ble_eq_true rfl)⟩ (fun u0 H locs hP hD hS => ?_)
  have hP : va_P (G.2.1, G.2.2.1) vwCl ((h0, .inr (3, [.null, .null, .null, .null, .int 0, .int 0])) :: stW G u0) H := hP
  have hD : va_D A ((h0, .inr (3, [.null, .null, .null, .null, .int 0, .int 0])) :: stW G u0) := hD
  refine va_putF (D := (G.2.1, G.2.2.1)) (ci := 3) (v := .ref (u0 0)) (ty := (.object "SieveBench$State")) (C := RX3) (T := TX3) (N := 6) hx hb hts hin3 tyX3 tyX3_ok nmX3 hown hK hP hD hS 0 rfl rfl 0 (by decide) (hts _ wcF_3_state) (fun _ h9 => h9) rfl hin rfl (by decide +kernel) rfl rfl (Nat.le_of_ble_eq_true rfl) dX3_init_12 (fun H locs hP hD hS => ?_)
  have hP : va_P (G.2.1, G.2.2.1) vwCl ((h0, .inr (3, [.ref (u0 0), .null, .null, .null, .int 0, .int 0])) :: stW G u0) H := hP
  have hD : va_D A ((h0, .inr (3, [.ref (u0 0), .null, .null, .null, .int 0, .int 0])) :: stW G u0) := hD
  refine lv_aload_n hx hb dX3_init_15 rfl (lv_at hl 0 rfl) ?_
  refine mkState (X := (h0, .inr (3, [.ref (u0 0), .null, .null, .null, .int 0, .int 0])) :: stW G u0) cf hKK hP hD hS hA hl.1 (Nat.le_of_ble_eq_true rfl) dX3_init_16 dX3_init_19 dX3_init_20 ⟨(Nat.le_of_ble_eq_true rfl), (Nat.le_of_ble_eq_true rfl)⟩ ⟨(Nat.le_of_ble_eq_true rfl), (Nat.le_of_ble_eq_true rfl)⟩ (fun u1 H locs hP hD hS => ?_)
  have hP : va_P (G.2.1, G.2.2.1) vwCl ((h0, .inr (3, [.ref (u0 0), .null, .null, .null, .int 0, .int 0])) :: (stW G u0 ++ stW G u1)) H := hP
  have hD : va_D A ((h0, .inr (3, [.ref (u0 0), .null, .null, .null, .int 0, .int 0])) :: (stW G u0 ++ stW G u1)) := hD
  refine va_putF (D := (G.2.1, G.2.2.1)) (ci := 3) (v := .ref (u1 0)) (ty := (.object "SieveBench$State")) (C := RX3) (T := TX3) (N := 6) hx hb hts hin3 tyX3 tyX3_ok nmX3 hown hK hP hD hS 0 rfl rfl 1 (by decide) (hts _ wcF_3_forecast) (fun _ h9 => h9) rfl hin rfl (by decide +kernel) rfl rfl (Nat.le_of_ble_eq_true rfl) dX3_init_23 (fun H locs hP hD hS => ?_)
  have hP : va_P (G.2.1, G.2.2.1) vwCl ((h0, .inr (3, [.ref (u0 0), .ref (u1 0), .null, .null, .int 0, .int 0])) :: (stW G u0 ++ stW G u1)) H := hP
  have hD : va_D A ((h0, .inr (3, [.ref (u0 0), .ref (u1 0), .null, .null, .int 0, .int 0])) :: (stW G u0 ++ stW G u1)) := hD
  refine lv_aload_n hx hb dX3_init_26 rfl (lv_at hl 0 rfl) ?_
  refine lv_bipush (v := 6) hx hb dX3_init_27 (by decide) ?_
  refine va_newq (C := RX1) (N' := 6) hx hb hown (hts _ wcC_3_1) hKK.2.2.2.1 hK hP hD hS hA (by decide) (by decide) (Nat.le_of_ble_eq_true rfl) (Nat.le_of_ble_eq_true rfl) (Nat.le_of_ble_eq_true rfl) dX3_init_29 (fun qs cA H hK2 hP hD hS => ?_)
  have ec : cA = G.2.2.2.1 10 := k_uniq 4 hK2 rfl
  subst ec
  clear hK2
  have hP : va_P (G.2.1, G.2.2.1) vwCl ((h0, .inr (3, [.ref (u0 0), .ref (u1 0), .null, .null, .int 0, .int 0])) :: ((stW G u0 ++ stW G u1) ++ [(qs, .inl (G.2.2.2.1 10, 6, qf (fun _ => none)))])) H := hP
  have hD : va_D A ((h0, .inr (3, [.ref (u0 0), .ref (u1 0), .null, .null, .int 0, .int 0])) :: ((stW G u0 ++ stW G u1) ++ [(qs, .inl (G.2.2.2.1 10, 6, qf (fun _ => none)))])) := hD
  refine va_putF (D := (G.2.1, G.2.2.1)) (ci := 3) (v := .ref qs) (ty := (.array (.object "SieveBench$State"))) (C := RX3) (T := TX3) (N := 6) hx hb hts hin3 tyX3 tyX3_ok nmX3 hown hK hP hD hS 0 rfl rfl 2 (by decide) (hts _ wcF_3_saved) (fun _ h9 => h9) rfl hin rfl (by decide +kernel) rfl rfl (Nat.le_of_ble_eq_true rfl) dX3_init_32 (fun H locs hP hD hS => ?_)
  have hP : va_P (G.2.1, G.2.2.1) vwCl ((h0, .inr (3, [.ref (u0 0), .ref (u1 0), .ref qs, .null, .int 0, .int 0])) :: ((stW G u0 ++ stW G u1) ++ [(qs, .inl (G.2.2.2.1 10, 6, qf (fun _ => none)))])) H := hP
  have hD : va_D A ((h0, .inr (3, [.ref (u0 0), .ref (u1 0), .ref qs, .null, .int 0, .int 0])) :: ((stW G u0 ++ stW G u1) ++ [(qs, .inl (G.2.2.2.1 10, 6, qf (fun _ => none)))])) := hD
  have hP : va_P (G.2.1, G.2.2.1) vwCl ((h0, .inr (3, [.ref (u0 0), .ref (u1 0), .ref qs, .null, .int 0, .int 0])) :: (qs, .inl (G.2.2.2.1 10, 6, qf (fun _ => none))) :: (stW G u0 ++ stW G u1)) H := hP.mem (fun z hz => pm1.mem_iff.mp hz)
  have hD : va_D A ((h0, .inr (3, [.ref (u0 0), .ref (u1 0), .ref qs, .null, .int 0, .int 0])) :: (qs, .inl (G.2.2.2.1 10, 6, qf (fun _ => none))) :: (stW G u0 ++ stW G u1)) := hD.perm pm1
  refine lv_aload_n hx hb dX3_init_35 rfl (lv_at hl 0 rfl) ?_
  refine mkText (X := (h0, .inr (3, [.ref (u0 0), .ref (u1 0), .ref qs, .null, .int 0, .int 0])) :: (qs, .inl (G.2.2.2.1 10, 6, qf (fun _ => none))) :: (stW G u0 ++ stW G u1)) cf hKK hP hD hS hA hl.1 (Nat.le_of_ble_eq_true rfl) dX3_init_36 dX3_init_39 dX3_init_40 ⟨(Nat.le_of_ble_eq_true rfl), (Nat.le_of_ble_eq_true rfl)⟩ ⟨(Nat.le_of_ble_eq_true rfl), (Nat.le_of_ble_eq_true rfl)⟩ (fun tq tu H locs hP hD hS => ?_)
  have hP : va_P (G.2.1, G.2.2.1) vwCl ((h0, .inr (3, [.ref (u0 0), .ref (u1 0), .ref qs, .null, .int 0, .int 0])) :: (qs, .inl (G.2.2.2.1 10, 6, qf (fun _ => none))) :: ((stW G u0 ++ stW G u1) ++ txW G tq tu)) H := hP
  have hD : va_D A ((h0, .inr (3, [.ref (u0 0), .ref (u1 0), .ref qs, .null, .int 0, .int 0])) :: (qs, .inl (G.2.2.2.1 10, 6, qf (fun _ => none))) :: ((stW G u0 ++ stW G u1) ++ txW G tq tu)) := hD
  refine va_putF (D := (G.2.1, G.2.2.1)) (ci := 3) (v := .ref tq) (ty := (.object "SieveBench$SampleText")) (C := RX3) (T := TX3) (N := 6) hx hb hts hin3 tyX3 tyX3_ok nmX3 hown hK hP hD hS 0 rfl rfl 3 (by decide) (hts _ wcF_3_text) (fun _ h9 => h9) rfl hin rfl (by decide +kernel) rfl rfl (Nat.le_of_ble_eq_true rfl) dX3_init_43 (fun H locs hP hD hS => ?_)
  have hP : va_P (G.2.1, G.2.2.1) vwCl ((h0, .inr (3, [.ref (u0 0), .ref (u1 0), .ref qs, .ref tq, .int 0, .int 0])) :: (qs, .inl (G.2.2.2.1 10, 6, qf (fun _ => none))) :: ((stW G u0 ++ stW G u1) ++ txW G tq tu)) H := hP
  have hD : va_D A ((h0, .inr (3, [.ref (u0 0), .ref (u1 0), .ref qs, .ref tq, .int 0, .int 0])) :: (qs, .inl (G.2.2.2.1 10, 6, qf (fun _ => none))) :: ((stW G u0 ++ stW G u1) ++ txW G tq tu)) := hD
  refine lv_iconst (v := 0) hx hb dX3_init_46 (by decide) ?_
  refine lv_istore_n (lv' := [(1, .int 0), (0, .ref h0)]) hx hb dX3_init_47 rfl hl (by decide) rfl (fun ls hl => ?_)
  refine lv_iload_n hx hb dX3_init_48 rfl (lv_at hl 0 rfl) ?_
  refine lv_bipush (v := 6) hx hb dX3_init_49 (by decide) ?_
  refine lv_icmp_ge (tgt := 73) hx hb dX3_init_51 (by decide) (fun z => absurd z (by decide)) (fun _ => ?_)
  refine lv_aload_n hx hb dX3_init_54 rfl (lv_at hl 1 rfl) ?_
  refine va_get (D := (G.2.1, G.2.2.1)) (ci := 3) (v := .ref qs) (C := RX3) (T := TX3) (N := 6) hx hb hts hin3 hown hK hP 0 rfl rfl 2 (by decide) (hts _ wcF_3_saved) (fun _ h9 => h9) rfl dX3_init_55 ?_
  refine lv_iload_n hx hb dX3_init_58 rfl (lv_at hl 0 rfl) ?_
  refine mkState (X := (h0, .inr (3, [.ref (u0 0), .ref (u1 0), .ref qs, .ref tq, .int 0, .int 0])) :: (qs, .inl (G.2.2.2.1 10, 6, qf (fun _ => none))) :: ((stW G u0 ++ stW G u1) ++ txW G tq tu)) cf hKK hP hD hS hA hl.1 (Nat.le_of_ble_eq_true rfl) dX3_init_59 dX3_init_62 dX3_init_63 ⟨(Nat.le_of_ble_eq_true rfl), (Nat.le_of_ble_eq_true rfl)⟩ ⟨(Nat.le_of_ble_eq_true rfl), (Nat.le_of_ble_eq_true rfl)⟩ (fun u2 H locs hP hD hS => ?_)
  have hP : va_P (G.2.1, G.2.2.1) vwCl ((h0, .inr (3, [.ref (u0 0), .ref (u1 0), .ref qs, .ref tq, .int 0, .int 0])) :: (qs, .inl (G.2.2.2.1 10, 6, qf (fun _ => none))) :: (((stW G u0 ++ stW G u1) ++ txW G tq tu) ++ stW G u2)) H := hP
  have hD : va_D A ((h0, .inr (3, [.ref (u0 0), .ref (u1 0), .ref qs, .ref tq, .int 0, .int 0])) :: (qs, .inl (G.2.2.2.1 10, 6, qf (fun _ => none))) :: (((stW G u0 ++ stW G u1) ++ txW G tq tu) ++ stW G u2)) := hD
  refine va_astq (r := (RX1, TX1, 14)) hx hb hK hP hD hS 1 4 (List.length ((stW G u0 ++ stW G u1) ++ txW G tq tu) + 2) 1 rfl rfl ix2 rfl (i := 0) (kin_in (by decide +kernel)) dX3_init_66 (fun H locs hP hD hS => ?_)
  have hP : va_P (G.2.1, G.2.2.1) vwCl ((h0, .inr (3, [.ref (u0 0), .ref (u1 0), .ref qs, .ref tq, .int 0, .int 0])) :: (qs, .inl (G.2.2.2.1 10, 6, qf (va_up (fun _ => none) (0 : Int32).toNatClampNeg (some (u2 0))))) :: (((stW G u0 ++ stW G u1) ++ txW G tq tu) ++ stW G u2)) H := hP
  have hD : va_D A ((h0, .inr (3, [.ref (u0 0), .ref (u1 0), .ref qs, .ref tq, .int 0, .int 0])) :: (qs, .inl (G.2.2.2.1 10, 6, qf (va_up (fun _ => none) (0 : Int32).toNatClampNeg (some (u2 0))))) :: (((stW G u0 ++ stW G u1) ++ txW G tq tu) ++ stW G u2)) := hD
  refine lv_iinc (v := 1) (lv' := [(1, .int 1), (0, .ref h0)]) hx hb dX3_init_67 hl (k := 0) rfl (by decide) (by decide) rfl (fun ls hl => ?_)
  refine lv_goto (tgt := 48) hx hb dX3_init_70 (by decide) ?_
  refine lv_iload_n hx hb dX3_init_48 rfl (lv_at hl 0 rfl) ?_
  refine lv_bipush (v := 6) hx hb dX3_init_49 (by decide) ?_
  refine lv_icmp_ge (tgt := 73) hx hb dX3_init_51 (by decide) (fun z => absurd z (by decide)) (fun _ => ?_)
  refine lv_aload_n hx hb dX3_init_54 rfl (lv_at hl 1 rfl) ?_
  refine va_get (D := (G.2.1, G.2.2.1)) (ci := 3) (v := .ref qs) (C := RX3) (T := TX3) (N := 6) hx hb hts hin3 hown hK hP 0 rfl rfl 2 (by decide) (hts _ wcF_3_saved) (fun _ h9 => h9) rfl dX3_init_55 ?_
  refine lv_iload_n hx hb dX3_init_58 rfl (lv_at hl 0 rfl) ?_
  refine mkState (X := (h0, .inr (3, [.ref (u0 0), .ref (u1 0), .ref qs, .ref tq, .int 0, .int 0])) :: (qs, .inl (G.2.2.2.1 10, 6, qf (va_up (fun _ => none) (0 : Int32).toNatClampNeg (some (u2 0))))) :: (((stW G u0 ++ stW G u1) ++ txW G tq tu) ++ stW G u2)) cf hKK hP hD hS hA hl.1 (Nat.le_of_ble_eq_true rfl) dX3_init_59 dX3_init_62 dX3_init_63 ⟨(Nat.le_of_ble_eq_true rfl), (Nat.le_of_ble_eq_true rfl)⟩ ⟨(Nat.le_of_ble_eq_true rfl), (Nat.le_of_ble_eq_true rfl)⟩ (fun u3 H locs hP hD hS => ?_)
  have hP : va_P (G.2.1, G.2.2.1) vwCl ((h0, .inr (3, [.ref (u0 0), .ref (u1 0), .ref qs, .ref tq, .int 0, .int 0])) :: (qs, .inl (G.2.2.2.1 10, 6, qf (va_up (fun _ => none) (0 : Int32).toNatClampNeg (some (u2 0))))) :: ((((stW G u0 ++ stW G u1) ++ txW G tq tu) ++ stW G u2) ++ stW G u3)) H := hP
  have hD : va_D A ((h0, .inr (3, [.ref (u0 0), .ref (u1 0), .ref qs, .ref tq, .int 0, .int 0])) :: (qs, .inl (G.2.2.2.1 10, 6, qf (va_up (fun _ => none) (0 : Int32).toNatClampNeg (some (u2 0))))) :: ((((stW G u0 ++ stW G u1) ++ txW G tq tu) ++ stW G u2) ++ stW G u3)) := hD
  refine va_astq (r := (RX1, TX1, 14)) hx hb hK hP hD hS 1 4 (List.length (((stW G u0 ++ stW G u1) ++ txW G tq tu) ++ stW G u2) + 2) 1 rfl rfl ix2 rfl (i := 1) (kin_in (by decide +kernel)) dX3_init_66 (fun H locs hP hD hS => ?_)
  have hP : va_P (G.2.1, G.2.2.1) vwCl ((h0, .inr (3, [.ref (u0 0), .ref (u1 0), .ref qs, .ref tq, .int 0, .int 0])) :: (qs, .inl (G.2.2.2.1 10, 6, qf (va_up (va_up (fun _ => none) (0 : Int32).toNatClampNeg (some (u2 0))) (1 : Int32).toNatClampNeg (some (u3 0))))) :: ((((stW G u0 ++ stW G u1) ++ txW G tq tu) ++ stW G u2) ++ stW G u3)) H := hP
  have hD : va_D A ((h0, .inr (3, [.ref (u0 0), .ref (u1 0), .ref qs, .ref tq, .int 0, .int 0])) :: (qs, .inl (G.2.2.2.1 10, 6, qf (va_up (va_up (fun _ => none) (0 : Int32).toNatClampNeg (some (u2 0))) (1 : Int32).toNatClampNeg (some (u3 0))))) :: ((((stW G u0 ++ stW G u1) ++ txW G tq tu) ++ stW G u2) ++ stW G u3)) := hD
  refine lv_iinc (v := 2) (lv' := [(1, .int 2), (0, .ref h0)]) hx hb dX3_init_67 hl (k := 0) rfl (by decide) (by decide) rfl (fun ls hl => ?_)
  refine lv_goto (tgt := 48) hx hb dX3_init_70 (by decide) ?_
  refine lv_iload_n hx hb dX3_init_48 rfl (lv_at hl 0 rfl) ?_
  refine lv_bipush (v := 6) hx hb dX3_init_49 (by decide) ?_
  refine lv_icmp_ge (tgt := 73) hx hb dX3_init_51 (by decide) (fun z => absurd z (by decide)) (fun _ => ?_)
  refine lv_aload_n hx hb dX3_init_54 rfl (lv_at hl 1 rfl) ?_
  refine va_get (D := (G.2.1, G.2.2.1)) (ci := 3) (v := .ref qs) (C := RX3) (T := TX3) (N := 6) hx hb hts hin3 hown hK hP 0 rfl rfl 2 (by decide) (hts _ wcF_3_saved) (fun _ h9 => h9) rfl dX3_init_55 ?_
  refine lv_iload_n hx hb dX3_init_58 rfl (lv_at hl 0 rfl) ?_
  refine mkState (X := (h0, .inr (3, [.ref (u0 0), .ref (u1 0), .ref qs, .ref tq, .int 0, .int 0])) :: (qs, .inl (G.2.2.2.1 10, 6, qf (va_up (va_up (fun _ => none) (0 : Int32).toNatClampNeg (some (u2 0))) (1 : Int32).toNatClampNeg (some (u3 0))))) :: ((((stW G u0 ++ stW G u1) ++ txW G tq tu) ++ stW G u2) ++ stW G u3)) cf hKK hP hD hS hA hl.1 (Nat.le_of_ble_eq_true rfl) dX3_init_59 dX3_init_62 dX3_init_63 ⟨(Nat.le_of_ble_eq_true rfl), (Nat.le_of_ble_eq_true rfl)⟩ ⟨(Nat.le_of_ble_eq_true rfl), (Nat.le_of_ble_eq_true rfl)⟩ (fun u4 H locs hP hD hS => ?_)
  have hP : va_P (G.2.1, G.2.2.1) vwCl ((h0, .inr (3, [.ref (u0 0), .ref (u1 0), .ref qs, .ref tq, .int 0, .int 0])) :: (qs, .inl (G.2.2.2.1 10, 6, qf (va_up (va_up (fun _ => none) (0 : Int32).toNatClampNeg (some (u2 0))) (1 : Int32).toNatClampNeg (some (u3 0))))) :: (((((stW G u0 ++ stW G u1) ++ txW G tq tu) ++ stW G u2) ++ stW G u3) ++ stW G u4)) H := hP
  have hD : va_D A ((h0, .inr (3, [.ref (u0 0), .ref (u1 0), .ref qs, .ref tq, .int 0, .int 0])) :: (qs, .inl (G.2.2.2.1 10, 6, qf (va_up (va_up (fun _ => none) (0 : Int32).toNatClampNeg (some (u2 0))) (1 : Int32).toNatClampNeg (some (u3 0))))) :: (((((stW G u0 ++ stW G u1) ++ txW G tq tu) ++ stW G u2) ++ stW G u3) ++ stW G u4)) := hD
  refine va_astq (r := (RX1, TX1, 14)) hx hb hK hP hD hS 1 4 (List.length ((((stW G u0 ++ stW G u1) ++ txW G tq tu) ++ stW G u2) ++ stW G u3) + 2) 1 rfl rfl ix2 rfl (i := 2) (kin_in (by decide +kernel)) dX3_init_66 (fun H locs hP hD hS => ?_)
  have hP : va_P (G.2.1, G.2.2.1) vwCl ((h0, .inr (3, [.ref (u0 0), .ref (u1 0), .ref qs, .ref tq, .int 0, .int 0])) :: (qs, .inl (G.2.2.2.1 10, 6, qf (va_up (va_up (va_up (fun _ => none) (0 : Int32).toNatClampNeg (some (u2 0))) (1 : Int32).toNatClampNeg (some (u3 0))) (2 : Int32).toNatClampNeg (some (u4 0))))) :: (((((stW G u0 ++ stW G u1) ++ txW G tq tu) ++ stW G u2) ++ stW G u3) ++ stW G u4)) H := hP
  have hD : va_D A ((h0, .inr (3, [.ref (u0 0), .ref (u1 0), .ref qs, .ref tq, .int 0, .int 0])) :: (qs, .inl (G.2.2.2.1 10, 6, qf (va_up (va_up (va_up (fun _ => none) (0 : Int32).toNatClampNeg (some (u2 0))) (1 : Int32).toNatClampNeg (some (u3 0))) (2 : Int32).toNatClampNeg (some (u4 0))))) :: (((((stW G u0 ++ stW G u1) ++ txW G tq tu) ++ stW G u2) ++ stW G u3) ++ stW G u4)) := hD
  refine lv_iinc (v := 3) (lv' := [(1, .int 3), (0, .ref h0)]) hx hb dX3_init_67 hl (k := 0) rfl (by decide) (by decide) rfl (fun ls hl => ?_)
  refine lv_goto (tgt := 48) hx hb dX3_init_70 (by decide) ?_
  refine lv_iload_n hx hb dX3_init_48 rfl (lv_at hl 0 rfl) ?_
  refine lv_bipush (v := 6) hx hb dX3_init_49 (by decide) ?_
  refine lv_icmp_ge (tgt := 73) hx hb dX3_init_51 (by decide) (fun z => absurd z (by decide)) (fun _ => ?_)
  refine lv_aload_n hx hb dX3_init_54 rfl (lv_at hl 1 rfl) ?_
  refine va_get (D := (G.2.1, G.2.2.1)) (ci := 3) (v := .ref qs) (C := RX3) (T := TX3) (N := 6) hx hb hts hin3 hown hK hP 0 rfl rfl 2 (by decide) (hts _ wcF_3_saved) (fun _ h9 => h9) rfl dX3_init_55 ?_
  refine lv_iload_n hx hb dX3_init_58 rfl (lv_at hl 0 rfl) ?_
  refine mkState (X := (h0, .inr (3, [.ref (u0 0), .ref (u1 0), .ref qs, .ref tq, .int 0, .int 0])) :: (qs, .inl (G.2.2.2.1 10, 6, qf (va_up (va_up (va_up (fun _ => none) (0 : Int32).toNatClampNeg (some (u2 0))) (1 : Int32).toNatClampNeg (some (u3 0))) (2 : Int32).toNatClampNeg (some (u4 0))))) :: (((((stW G u0 ++ stW G u1) ++ txW G tq tu) ++ stW G u2) ++ stW G u3) ++ stW G u4)) cf hKK hP hD hS hA hl.1 (Nat.le_of_ble_eq_true rfl) dX3_init_59 dX3_init_62 dX3_init_63 ⟨(Nat.le_of_ble_eq_true rfl), (Nat.le_of_ble_eq_true rfl)⟩ ⟨(Nat.le_of_ble_eq_true rfl), (Nat.le_of_ble_eq_true rfl)⟩ (fun u5 H locs hP hD hS => ?_)
  have hP : va_P (G.2.1, G.2.2.1) vwCl ((h0, .inr (3, [.ref (u0 0), .ref (u1 0), .ref qs, .ref tq, .int 0, .int 0])) :: (qs, .inl (G.2.2.2.1 10, 6, qf (va_up (va_up (va_up (fun _ => none) (0 : Int32).toNatClampNeg (some (u2 0))) (1 : Int32).toNatClampNeg (some (u3 0))) (2 : Int32).toNatClampNeg (some (u4 0))))) :: ((((((stW G u0 ++ stW G u1) ++ txW G tq tu) ++ stW G u2) ++ stW G u3) ++ stW G u4) ++ stW G u5)) H := hP
  have hD : va_D A ((h0, .inr (3, [.ref (u0 0), .ref (u1 0), .ref qs, .ref tq, .int 0, .int 0])) :: (qs, .inl (G.2.2.2.1 10, 6, qf (va_up (va_up (va_up (fun _ => none) (0 : Int32).toNatClampNeg (some (u2 0))) (1 : Int32).toNatClampNeg (some (u3 0))) (2 : Int32).toNatClampNeg (some (u4 0))))) :: ((((((stW G u0 ++ stW G u1) ++ txW G tq tu) ++ stW G u2) ++ stW G u3) ++ stW G u4) ++ stW G u5)) := hD
  refine va_astq (r := (RX1, TX1, 14)) hx hb hK hP hD hS 1 4 (List.length (((((stW G u0 ++ stW G u1) ++ txW G tq tu) ++ stW G u2) ++ stW G u3) ++ stW G u4) + 2) 1 rfl rfl ix2 rfl (i := 3) (kin_in (by decide +kernel)) dX3_init_66 (fun H locs hP hD hS => ?_)
  have hP : va_P (G.2.1, G.2.2.1) vwCl ((h0, .inr (3, [.ref (u0 0), .ref (u1 0), .ref qs, .ref tq, .int 0, .int 0])) :: (qs, .inl (G.2.2.2.1 10, 6, qf (va_up (va_up (va_up (va_up (fun _ => none) (0 : Int32).toNatClampNeg (some (u2 0))) (1 : Int32).toNatClampNeg (some (u3 0))) (2 : Int32).toNatClampNeg (some (u4 0))) (3 : Int32).toNatClampNeg (some (u5 0))))) :: ((((((stW G u0 ++ stW G u1) ++ txW G tq tu) ++ stW G u2) ++ stW G u3) ++ stW G u4) ++ stW G u5)) H := hP
  have hD : va_D A ((h0, .inr (3, [.ref (u0 0), .ref (u1 0), .ref qs, .ref tq, .int 0, .int 0])) :: (qs, .inl (G.2.2.2.1 10, 6, qf (va_up (va_up (va_up (va_up (fun _ => none) (0 : Int32).toNatClampNeg (some (u2 0))) (1 : Int32).toNatClampNeg (some (u3 0))) (2 : Int32).toNatClampNeg (some (u4 0))) (3 : Int32).toNatClampNeg (some (u5 0))))) :: ((((((stW G u0 ++ stW G u1) ++ txW G tq tu) ++ stW G u2) ++ stW G u3) ++ stW G u4) ++ stW G u5)) := hD
  refine lv_iinc (v := 4) (lv' := [(1, .int 4), (0, .ref h0)]) hx hb dX3_init_67 hl (k := 0) rfl (by decide) (by decide) rfl (fun ls hl => ?_)
  refine lv_goto (tgt := 48) hx hb dX3_init_70 (by decide) ?_
  refine lv_iload_n hx hb dX3_init_48 rfl (lv_at hl 0 rfl) ?_
  refine lv_bipush (v := 6) hx hb dX3_init_49 (by decide) ?_
  refine lv_icmp_ge (tgt := 73) hx hb dX3_init_51 (by decide) (fun z => absurd z (by decide)) (fun _ => ?_)
  refine lv_aload_n hx hb dX3_init_54 rfl (lv_at hl 1 rfl) ?_
  refine va_get (D := (G.2.1, G.2.2.1)) (ci := 3) (v := .ref qs) (C := RX3) (T := TX3) (N := 6) hx hb hts hin3 hown hK hP 0 rfl rfl 2 (by decide) (hts _ wcF_3_saved) (fun _ h9 => h9) rfl dX3_init_55 ?_
  refine lv_iload_n hx hb dX3_init_58 rfl (lv_at hl 0 rfl) ?_
  refine mkState (X := (h0, .inr (3, [.ref (u0 0), .ref (u1 0), .ref qs, .ref tq, .int 0, .int 0])) :: (qs, .inl (G.2.2.2.1 10, 6, qf (va_up (va_up (va_up (va_up (fun _ => none) (0 : Int32).toNatClampNeg (some (u2 0))) (1 : Int32).toNatClampNeg (some (u3 0))) (2 : Int32).toNatClampNeg (some (u4 0))) (3 : Int32).toNatClampNeg (some (u5 0))))) :: ((((((stW G u0 ++ stW G u1) ++ txW G tq tu) ++ stW G u2) ++ stW G u3) ++ stW G u4) ++ stW G u5)) cf hKK hP hD hS hA hl.1 (Nat.le_of_ble_eq_true rfl) dX3_init_59 dX3_init_62 dX3_init_63 ⟨(Nat.le_of_ble_eq_true rfl), (Nat.le_of_ble_eq_true rfl)⟩ ⟨(Nat.le_of_ble_eq_true rfl), (Nat.le_of_ble_eq_true rfl)⟩ (fun u6 H locs hP hD hS => ?_)
  have hP : va_P (G.2.1, G.2.2.1) vwCl ((h0, .inr (3, [.ref (u0 0), .ref (u1 0), .ref qs, .ref tq, .int 0, .int 0])) :: (qs, .inl (G.2.2.2.1 10, 6, qf (va_up (va_up (va_up (va_up (fun _ => none) (0 : Int32).toNatClampNeg (some (u2 0))) (1 : Int32).toNatClampNeg (some (u3 0))) (2 : Int32).toNatClampNeg (some (u4 0))) (3 : Int32).toNatClampNeg (some (u5 0))))) :: (((((((stW G u0 ++ stW G u1) ++ txW G tq tu) ++ stW G u2) ++ stW G u3) ++ stW G u4) ++ stW G u5) ++ stW G u6)) H := hP
  have hD : va_D A ((h0, .inr (3, [.ref (u0 0), .ref (u1 0), .ref qs, .ref tq, .int 0, .int 0])) :: (qs, .inl (G.2.2.2.1 10, 6, qf (va_up (va_up (va_up (va_up (fun _ => none) (0 : Int32).toNatClampNeg (some (u2 0))) (1 : Int32).toNatClampNeg (some (u3 0))) (2 : Int32).toNatClampNeg (some (u4 0))) (3 : Int32).toNatClampNeg (some (u5 0))))) :: (((((((stW G u0 ++ stW G u1) ++ txW G tq tu) ++ stW G u2) ++ stW G u3) ++ stW G u4) ++ stW G u5) ++ stW G u6)) := hD
  refine va_astq (r := (RX1, TX1, 14)) hx hb hK hP hD hS 1 4 (List.length ((((((stW G u0 ++ stW G u1) ++ txW G tq tu) ++ stW G u2) ++ stW G u3) ++ stW G u4) ++ stW G u5) + 2) 1 rfl rfl ix2 rfl (i := 4) (kin_in (by decide +kernel)) dX3_init_66 (fun H locs hP hD hS => ?_)
  have hP : va_P (G.2.1, G.2.2.1) vwCl ((h0, .inr (3, [.ref (u0 0), .ref (u1 0), .ref qs, .ref tq, .int 0, .int 0])) :: (qs, .inl (G.2.2.2.1 10, 6, qf (va_up (va_up (va_up (va_up (va_up (fun _ => none) (0 : Int32).toNatClampNeg (some (u2 0))) (1 : Int32).toNatClampNeg (some (u3 0))) (2 : Int32).toNatClampNeg (some (u4 0))) (3 : Int32).toNatClampNeg (some (u5 0))) (4 : Int32).toNatClampNeg (some (u6 0))))) :: (((((((stW G u0 ++ stW G u1) ++ txW G tq tu) ++ stW G u2) ++ stW G u3) ++ stW G u4) ++ stW G u5) ++ stW G u6)) H := hP
  have hD : va_D A ((h0, .inr (3, [.ref (u0 0), .ref (u1 0), .ref qs, .ref tq, .int 0, .int 0])) :: (qs, .inl (G.2.2.2.1 10, 6, qf (va_up (va_up (va_up (va_up (va_up (fun _ => none) (0 : Int32).toNatClampNeg (some (u2 0))) (1 : Int32).toNatClampNeg (some (u3 0))) (2 : Int32).toNatClampNeg (some (u4 0))) (3 : Int32).toNatClampNeg (some (u5 0))) (4 : Int32).toNatClampNeg (some (u6 0))))) :: (((((((stW G u0 ++ stW G u1) ++ txW G tq tu) ++ stW G u2) ++ stW G u3) ++ stW G u4) ++ stW G u5) ++ stW G u6)) := hD
  refine lv_iinc (v := 5) (lv' := [(1, .int 5), (0, .ref h0)]) hx hb dX3_init_67 hl (k := 0) rfl (by decide) (by decide) rfl (fun ls hl => ?_)
  refine lv_goto (tgt := 48) hx hb dX3_init_70 (by decide) ?_
  refine lv_iload_n hx hb dX3_init_48 rfl (lv_at hl 0 rfl) ?_
  refine lv_bipush (v := 6) hx hb dX3_init_49 (by decide) ?_
  refine lv_icmp_ge (tgt := 73) hx hb dX3_init_51 (by decide) (fun z => absurd z (by decide)) (fun _ => ?_)
  refine lv_aload_n hx hb dX3_init_54 rfl (lv_at hl 1 rfl) ?_
  refine va_get (D := (G.2.1, G.2.2.1)) (ci := 3) (v := .ref qs) (C := RX3) (T := TX3) (N := 6) hx hb hts hin3 hown hK hP 0 rfl rfl 2 (by decide) (hts _ wcF_3_saved) (fun _ h9 => h9) rfl dX3_init_55 ?_
  refine lv_iload_n hx hb dX3_init_58 rfl (lv_at hl 0 rfl) ?_
  refine mkState (X := (h0, .inr (3, [.ref (u0 0), .ref (u1 0), .ref qs, .ref tq, .int 0, .int 0])) :: (qs, .inl (G.2.2.2.1 10, 6, qf (va_up (va_up (va_up (va_up (va_up (fun _ => none) (0 : Int32).toNatClampNeg (some (u2 0))) (1 : Int32).toNatClampNeg (some (u3 0))) (2 : Int32).toNatClampNeg (some (u4 0))) (3 : Int32).toNatClampNeg (some (u5 0))) (4 : Int32).toNatClampNeg (some (u6 0))))) :: (((((((stW G u0 ++ stW G u1) ++ txW G tq tu) ++ stW G u2) ++ stW G u3) ++ stW G u4) ++ stW G u5) ++ stW G u6)) cf hKK hP hD hS hA hl.1 (Nat.le_of_ble_eq_true rfl) dX3_init_59 dX3_init_62 dX3_init_63 ⟨(Nat.le_of_ble_eq_true rfl), (Nat.le_of_ble_eq_true rfl)⟩ ⟨(Nat.le_of_ble_eq_true rfl), (Nat.le_of_ble_eq_true rfl)⟩ (fun u7 H locs hP hD hS => ?_)
  have hP : va_P (G.2.1, G.2.2.1) vwCl ((h0, .inr (3, [.ref (u0 0), .ref (u1 0), .ref qs, .ref tq, .int 0, .int 0])) :: (qs, .inl (G.2.2.2.1 10, 6, qf (va_up (va_up (va_up (va_up (va_up (fun _ => none) (0 : Int32).toNatClampNeg (some (u2 0))) (1 : Int32).toNatClampNeg (some (u3 0))) (2 : Int32).toNatClampNeg (some (u4 0))) (3 : Int32).toNatClampNeg (some (u5 0))) (4 : Int32).toNatClampNeg (some (u6 0))))) :: ((((((((stW G u0 ++ stW G u1) ++ txW G tq tu) ++ stW G u2) ++ stW G u3) ++ stW G u4) ++ stW G u5) ++ stW G u6) ++ stW G u7)) H := hP
  have hD : va_D A ((h0, .inr (3, [.ref (u0 0), .ref (u1 0), .ref qs, .ref tq, .int 0, .int 0])) :: (qs, .inl (G.2.2.2.1 10, 6, qf (va_up (va_up (va_up (va_up (va_up (fun _ => none) (0 : Int32).toNatClampNeg (some (u2 0))) (1 : Int32).toNatClampNeg (some (u3 0))) (2 : Int32).toNatClampNeg (some (u4 0))) (3 : Int32).toNatClampNeg (some (u5 0))) (4 : Int32).toNatClampNeg (some (u6 0))))) :: ((((((((stW G u0 ++ stW G u1) ++ txW G tq tu) ++ stW G u2) ++ stW G u3) ++ stW G u4) ++ stW G u5) ++ stW G u6) ++ stW G u7)) := hD
  refine va_astq (r := (RX1, TX1, 14)) hx hb hK hP hD hS 1 4 (List.length (((((((stW G u0 ++ stW G u1) ++ txW G tq tu) ++ stW G u2) ++ stW G u3) ++ stW G u4) ++ stW G u5) ++ stW G u6) + 2) 1 rfl rfl ix2 rfl (i := 5) (kin_in (by decide +kernel)) dX3_init_66 (fun H locs hP hD hS => ?_)
  have hP : va_P (G.2.1, G.2.2.1) vwCl ((h0, .inr (3, [.ref (u0 0), .ref (u1 0), .ref qs, .ref tq, .int 0, .int 0])) :: (qs, .inl (G.2.2.2.1 10, 6, qf (va_up (va_up (va_up (va_up (va_up (va_up (fun _ => none) (0 : Int32).toNatClampNeg (some (u2 0))) (1 : Int32).toNatClampNeg (some (u3 0))) (2 : Int32).toNatClampNeg (some (u4 0))) (3 : Int32).toNatClampNeg (some (u5 0))) (4 : Int32).toNatClampNeg (some (u6 0))) (5 : Int32).toNatClampNeg (some (u7 0))))) :: ((((((((stW G u0 ++ stW G u1) ++ txW G tq tu) ++ stW G u2) ++ stW G u3) ++ stW G u4) ++ stW G u5) ++ stW G u6) ++ stW G u7)) H := hP
  have hD : va_D A ((h0, .inr (3, [.ref (u0 0), .ref (u1 0), .ref qs, .ref tq, .int 0, .int 0])) :: (qs, .inl (G.2.2.2.1 10, 6, qf (va_up (va_up (va_up (va_up (va_up (va_up (fun _ => none) (0 : Int32).toNatClampNeg (some (u2 0))) (1 : Int32).toNatClampNeg (some (u3 0))) (2 : Int32).toNatClampNeg (some (u4 0))) (3 : Int32).toNatClampNeg (some (u5 0))) (4 : Int32).toNatClampNeg (some (u6 0))) (5 : Int32).toNatClampNeg (some (u7 0))))) :: ((((((((stW G u0 ++ stW G u1) ++ txW G tq tu) ++ stW G u2) ++ stW G u3) ++ stW G u4) ++ stW G u5) ++ stW G u6) ++ stW G u7)) := hD
  refine lv_iinc (v := 6) (lv' := [(1, .int 6), (0, .ref h0)]) hx hb dX3_init_67 hl (k := 0) rfl (by decide) (by decide) rfl (fun ls hl => ?_)
  refine lv_goto (tgt := 48) hx hb dX3_init_70 (by decide) ?_
  refine lv_iload_n hx hb dX3_init_48 rfl (lv_at hl 0 rfl) ?_
  refine lv_bipush (v := 6) hx hb dX3_init_49 (by decide) ?_
  refine lv_icmp_ge (tgt := 73) hx hb dX3_init_51 (by decide) (fun _ => ?_) (fun z => absurd (by decide) z)
  refine W.widen (k := 165) (n := 1383) (Nat.le_of_ble_eq_true rfl) (Nat.le_of_ble_eq_true rfl) ?_
  obtain ⟨u, hu0, hP9, hD9⟩ := bn_close hP hD
  exact W.vret hx hb hr (fun t ht hW => ⟨⟨u, rfl, hu0, by rw [ht]; exact hP9, hD9⟩, hS.F ht⟩) hS.2.2 dX3_init_73
