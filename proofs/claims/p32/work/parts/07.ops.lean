def kSnd (l : Launch) (G : KG) (m pc : Nat) (g : KF) : Prop := kOK G → ∀ (p : Program) (e : Env) (s : State) (mid : MethodId) (args : Array Value) (below : List Frame) (meth : Method) (c : Code) (Q : State → Prop) (kc ks : Nat), kc ≤ kcl m → ks ≤ ksl m → kCx G m p s mid meth c args →
  ∀ (ls st : List Value) (M : KMem) (pc' : Nat) (ls' st' : List Value) (M' : KMem), g ls st M = some (pc', ls', st', M') → ∀ (H : Heap) (locs : List Loc) (la : Array Slot), kRep G M H → va_S G.2.2.2.2 s.heap H locs → kL G (kml m) ls la →
  (∀ (H' : Heap) (locs' : List Loc) (la' : Array Slot), kRep G M' H' → va_S G.2.2.2.2 s.heap H' locs' → kL G (kml m) ls' la' → W p l e (krm m) s mid args below meth c H' locs' kc ks Q (F0 mid pc' la' (st'.map (conc G.1)))) →
  W p l e (krm m) s mid args below meth c H locs kc ks Q (F0 mid pc la (st.map (conc G.1)))
theorem snd_iconst {l : Launch} {G : KG} {m pc : Nat} {n : Int} {v : Int32} (hd : decode (kcode m) pc = .ok (.iconst n, 1)) (hv : Int32.ofInt n = v) : kSnd l G m pc (g_push v (pc + 1)) := by
  intro hG p e s mid args below meth cd Q kc ks hkc hks cx ls st M pc' ls' st' M' hg H locs la hR hS hL kk
  cases hg
  exact lv_iconst cx.1 cx.2.1 hd hv (kk H locs la hR hS hL)
theorem snd_bipush {l : Launch} {G : KG} {m pc : Nat} {n : Int} {v : Int32} (hd : decode (kcode m) pc = .ok (.bipush n, 2)) (hv : (Int8.ofInt n).toInt32 = v) : kSnd l G m pc (g_push v (pc + 2)) := by
  intro hG p e s mid args below meth cd Q kc ks hkc hks cx ls st M pc' ls' st' M' hg H locs la hR hS hL kk
  cases hg
  exact lv_bipush cx.1 cx.2.1 hd hv (kk H locs la hR hS hL)
theorem snd_sipush {l : Launch} {G : KG} {m pc : Nat} {n : Int} {v : Int32} (hd : decode (kcode m) pc = .ok (.sipush n, 3)) (hv : (Int16.ofInt n).toInt32 = v) : kSnd l G m pc (g_push v (pc + 3)) := by
  intro hG p e s mid args below meth cd Q kc ks hkc hks cx ls st M pc' ls' st' M' hg H locs la hR hS hL kk
  cases hg
  exact lv_sipush cx.1 cx.2.1 hd hv (kk H locs la hR hS hL)
theorem snd_ldc {l : Launch} {G : KG} {m pc : Nat} {idx : Nat} {v : Int32} (hd : decode (kcode m) pc = .ok (.ldc idx, 2)) (hv : Cond.constant (kown m) idx v ∈ kgT) : kSnd l G m pc (g_push v (pc + 2)) := by
  intro hG p e s mid args below meth cd Q kc ks hkc hks cx ls st M pc' ls' st' M' hg H locs la hR hS hL kk
  cases hg
  exact lv_ldc cx.1 cx.2.1 cx.2.2.2.2.1 (cx.word hv) hd (kk H locs la hR hS hL)
theorem snd_ldc2 {l : Launch} {G : KG} {m pc : Nat} {idx : Nat} {v : Int64} (hd : decode (kcode m) pc = .ok (.ldc2_w idx, 3)) (hv : Cond.constantLong (kown m) idx v ∈ kgT) : kSnd l G m pc (g_pushl v (pc + 3)) := by
  intro hG p e s mid args below meth cd Q kc ks hkc hks cx ls st M pc' ls' st' M' hg H locs la hR hS hL kk
  cases hg
  exact lv_ldc2 cx.1 cx.2.1 cx.2.2.2.2.1 (cx.word hv) hd (kk H locs la hR hS hL)
theorem snd_lconst {l : Launch} {G : KG} {m pc : Nat} {n : Fin 2} {v : Int64} (hd : decode (kcode m) pc = .ok (.lconst n, 1)) (hv : Int64.ofNat (n : Nat) = v) : kSnd l G m pc (g_pushl v (pc + 1)) := by
  intro hG p e s mid args below meth cd Q kc ks hkc hks cx ls st M pc' ls' st' M' hg H locs la hR hS hL kk
  cases hg
  exact lv_lconst cx.1 cx.2.1 hd hv (kk H locs la hR hS hL)
theorem snd_iload {l : Launch} {G : KG} {m pc : Nat} {i : Nat} (hd : decode (kcode m) pc = .ok (.iload i, 2)) : kSnd l G m pc (g_ild i (pc + 2)) := by
  intro hG p e s mid args below meth cd Q kc ks hkc hks cx ls st M pc' ls' st' M' hg H locs la hR hS hL kk
  unfold g_ild at hg
  split at hg
  · rename_i x hx
    cases hg
    exact lv_iload cx.1 cx.2.1 hd (hL.2.2.2 i (.int x) hx (by intro z; cases z)) (kk H locs la hR hS hL)
  · cases hg
theorem snd_iload_n {l : Launch} {G : KG} {m pc : Nat} {k : Fin 4} {i : Nat} (hd : decode (kcode m) pc = .ok (.iload_n k, 1)) (hi : (k : Nat) = i) : kSnd l G m pc (g_ild i (pc + 1)) := by
  intro hG p e s mid args below meth cd Q kc ks hkc hks cx ls st M pc' ls' st' M' hg H locs la hR hS hL kk
  unfold g_ild at hg
  split at hg
  · rename_i x hx
    cases hg
    exact lv_iload_n cx.1 cx.2.1 hd hi (hL.2.2.2 i (.int x) hx (by intro z; cases z)) (kk H locs la hR hS hL)
  · cases hg
theorem snd_aload {l : Launch} {G : KG} {m pc : Nat} {i : Nat} (hd : decode (kcode m) pc = .ok (.aload i, 2)) : kSnd l G m pc (g_ald i (pc + 2)) := by
  intro hG p e s mid args below meth cd Q kc ks hkc hks cx ls st M pc' ls' st' M' hg H locs la hR hS hL kk
  unfold g_ald at hg
  split at hg
  · rename_i x hx
    cases hg
    exact lv_aload cx.1 cx.2.1 hd (hL.2.2.2 i (.ref x) hx (by intro z; cases z)) (kk H locs la hR hS hL)
  · cases hg
theorem snd_aload_n {l : Launch} {G : KG} {m pc : Nat} {k : Fin 4} {i : Nat} (hd : decode (kcode m) pc = .ok (.aload_n k, 1)) (hi : (k : Nat) = i) : kSnd l G m pc (g_ald i (pc + 1)) := by
  intro hG p e s mid args below meth cd Q kc ks hkc hks cx ls st M pc' ls' st' M' hg H locs la hR hS hL kk
  unfold g_ald at hg
  split at hg
  · rename_i x hx
    cases hg
    exact lv_aload_n cx.1 cx.2.1 hd hi (hL.2.2.2 i (.ref x) hx (by intro z; cases z)) (kk H locs la hR hS hL)
  · cases hg
theorem snd_lload {l : Launch} {G : KG} {m pc : Nat} {i : Nat} (hd : decode (kcode m) pc = .ok (.lload i, 2)) : kSnd l G m pc (g_lld i (pc + 2)) := by
  intro hG p e s mid args below meth cd Q kc ks hkc hks cx ls st M pc' ls' st' M' hg H locs la hR hS hL kk
  unfold g_lld at hg
  split at hg
  · rename_i x hx
    cases hg
    exact lv_lload cx.1 cx.2.1 hd (hL.2.2.2 i (.long x) hx (by intro z; cases z)) (kk H locs la hR hS hL)
  · cases hg
theorem snd_lload_n {l : Launch} {G : KG} {m pc : Nat} {k : Fin 4} {i : Nat} (hd : decode (kcode m) pc = .ok (.lload_n k, 1)) (hi : (k : Nat) = i) : kSnd l G m pc (g_lld i (pc + 1)) := by
  intro hG p e s mid args below meth cd Q kc ks hkc hks cx ls st M pc' ls' st' M' hg H locs la hR hS hL kk
  unfold g_lld at hg
  split at hg
  · rename_i x hx
    cases hg
    exact lv_lload_n cx.1 cx.2.1 hd hi (hL.2.2.2 i (.long x) hx (by intro z; cases z)) (kk H locs la hR hS hL)
  · cases hg
theorem snd_istore {l : Launch} {G : KG} {m pc : Nat} {i : Nat} (hd : decode (kcode m) pc = .ok (.istore i, 2)) : kSnd l G m pc (g_ist i (pc + 2)) := by
  intro hG p e s mid args below meth cd Q kc ks hkc hks cx ls st M pc' ls' st' M' hg H locs la hR hS hL kk
  unfold g_ist at hg
  split at hg
  · rename_i x r
    split at hg
    · rename_i hc
      simp only [Bool.and_eq_true, decide_eq_true_eq] at hc
      cases hg
      exact lv_istore cx.1 cx.2.1 hd hL.has (by rw [← hL.1]; exact hc.1) rfl (fun la' h' => kk H locs la' hR hS (hL.store hc.2 (by rw [← hL.1]; exact hc.1) h'))
    · cases hg
  · cases hg
theorem snd_istore_n {l : Launch} {G : KG} {m pc : Nat} {k : Fin 4} {i : Nat} (hd : decode (kcode m) pc = .ok (.istore_n k, 1)) (hi : (k : Nat) = i) : kSnd l G m pc (g_ist i (pc + 1)) := by
  intro hG p e s mid args below meth cd Q kc ks hkc hks cx ls st M pc' ls' st' M' hg H locs la hR hS hL kk
  unfold g_ist at hg
  split at hg
  · rename_i x r
    split at hg
    · rename_i hc
      simp only [Bool.and_eq_true, decide_eq_true_eq] at hc
      cases hg
      exact lv_istore_n cx.1 cx.2.1 hd hi hL.has (by rw [← hL.1]; exact hc.1) rfl (fun la' h' => kk H locs la' hR hS (hL.store hc.2 (by rw [← hL.1]; exact hc.1) h'))
    · cases hg
  · cases hg
theorem snd_astore {l : Launch} {G : KG} {m pc : Nat} {i : Nat} (hd : decode (kcode m) pc = .ok (.astore i, 2)) : kSnd l G m pc (g_ast i (pc + 2)) := by
  intro hG p e s mid args below meth cd Q kc ks hkc hks cx ls st M pc' ls' st' M' hg H locs la hR hS hL kk
  unfold g_ast at hg
  split at hg
  · rename_i x r
    split at hg
    · rename_i hc
      simp only [Bool.and_eq_true, decide_eq_true_eq] at hc
      cases hg
      exact lv_astore cx.1 cx.2.1 hd hL.has (by rw [← hL.1]; exact hc.1) rfl (fun la' h' => kk H locs la' hR hS (hL.store hc.2 (by rw [← hL.1]; exact hc.1) h'))
    · cases hg
  · cases hg
theorem snd_astore_n {l : Launch} {G : KG} {m pc : Nat} {k : Fin 4} {i : Nat} (hd : decode (kcode m) pc = .ok (.astore_n k, 1)) (hi : (k : Nat) = i) : kSnd l G m pc (g_ast i (pc + 1)) := by
  intro hG p e s mid args below meth cd Q kc ks hkc hks cx ls st M pc' ls' st' M' hg H locs la hR hS hL kk
  unfold g_ast at hg
  split at hg
  · rename_i x r
    split at hg
    · rename_i hc
      simp only [Bool.and_eq_true, decide_eq_true_eq] at hc
      cases hg
      exact lv_astore_n cx.1 cx.2.1 hd hi hL.has (by rw [← hL.1]; exact hc.1) rfl (fun la' h' => kk H locs la' hR hS (hL.store hc.2 (by rw [← hL.1]; exact hc.1) h'))
    · cases hg
  · cases hg
theorem snd_lstore {l : Launch} {G : KG} {m pc : Nat} {i : Nat} (hd : decode (kcode m) pc = .ok (.lstore i, 2)) : kSnd l G m pc (g_lst i (pc + 2)) := by
  intro hG p e s mid args below meth cd Q kc ks hkc hks cx ls st M pc' ls' st' M' hg H locs la hR hS hL kk
  unfold g_lst at hg
  split at hg
  · rename_i x r
    split at hg
    · rename_i hc
      simp only [Bool.and_eq_true, decide_eq_true_eq] at hc
      cases hg
      exact lv_lstore cx.1 cx.2.1 hd hL.has (by rw [← hL.1]; exact hc.1) rfl (fun la' h' => kk H locs la' hR hS (hL.store2 hc.2 (by rw [← hL.1]; exact hc.1) h'))
    · cases hg
  · cases hg
theorem snd_lstore_n {l : Launch} {G : KG} {m pc : Nat} {k : Fin 4} {i : Nat} (hd : decode (kcode m) pc = .ok (.lstore_n k, 1)) (hi : (k : Nat) = i) : kSnd l G m pc (g_lst i (pc + 1)) := by
  intro hG p e s mid args below meth cd Q kc ks hkc hks cx ls st M pc' ls' st' M' hg H locs la hR hS hL kk
  unfold g_lst at hg
  split at hg
  · rename_i x r
    split at hg
    · rename_i hc
      simp only [Bool.and_eq_true, decide_eq_true_eq] at hc
      cases hg
      exact lv_lstore_n cx.1 cx.2.1 hd hi hL.has (by rw [← hL.1]; exact hc.1) rfl (fun la' h' => kk H locs la' hR hS (hL.store2 hc.2 (by rw [← hL.1]; exact hc.1) h'))
    · cases hg
  · cases hg
theorem snd_iinc {l : Launch} {G : KG} {m pc : Nat} {i : Nat} {n : Int} {v : Int32} (hd : decode (kcode m) pc = .ok (.iinc i n, 3)) (hv : Int32.ofInt n = v) : kSnd l G m pc (g_iinc i v (pc + 3)) := by
  intro hG p e s mid args below meth cd Q kc ks hkc hks cx ls st M pc' ls' st' M' hg H locs la hR hS hL kk
  unfold g_iinc at hg
  split at hg
  · rename_i x hx
    split at hg
    · rename_i hc
      cases hg
      subst hv
      obtain ⟨k, hk⟩ := List.getElem?_of_mem (kp_mem (ad := G.1) hx (by intro z; cases z))
      have hi : i < kml m := by rw [← hL.1]; exact (List.getElem?_eq_some_iff.mp hx).1
      exact lv_iinc cx.1 cx.2.1 hd hL.has hk rfl hi rfl (fun la' h' => kk H locs la' hR hS (hL.store (x := .int (x + Int32.ofInt n)) hc hi h'))
    · cases hg
  · cases hg
theorem snd_ishr {l : Launch} {G : KG} {m pc : Nat} (hd : decode (kcode m) pc = .ok (.ishr, 1)) : kSnd l G m pc (g_iop k_ishr (pc + 1)) := by
  intro hG p e s mid args below meth cd Q kc ks hkc hks cx ls st M pc' ls' st' M' hg H locs la hR hS hL kk
  unfold g_iop at hg
  split at hg
  · cases hg
    exact lv_ishr cx.1 cx.2.1 hd (kk H locs la hR hS hL)
  · cases hg
theorem snd_iadd {l : Launch} {G : KG} {m pc : Nat} (hd : decode (kcode m) pc = .ok (.iadd, 1)) : kSnd l G m pc (g_iop (fun x y => x + y) (pc + 1)) := by
  intro hG p e s mid args below meth cd Q kc ks hkc hks cx ls st M pc' ls' st' M' hg H locs la hR hS hL kk
  unfold g_iop at hg
  split at hg
  · cases hg
    exact lv_iadd cx.1 cx.2.1 hd (kk H locs la hR hS hL)
  · cases hg
theorem snd_isub {l : Launch} {G : KG} {m pc : Nat} (hd : decode (kcode m) pc = .ok (.isub, 1)) : kSnd l G m pc (g_iop (fun x y => x - y) (pc + 1)) := by
  intro hG p e s mid args below meth cd Q kc ks hkc hks cx ls st M pc' ls' st' M' hg H locs la hR hS hL kk
  unfold g_iop at hg
  split at hg
  · cases hg
    exact lv_isub cx.1 cx.2.1 hd (kk H locs la hR hS hL)
  · cases hg
theorem snd_imul {l : Launch} {G : KG} {m pc : Nat} (hd : decode (kcode m) pc = .ok (.imul, 1)) : kSnd l G m pc (g_iop (fun x y => x * y) (pc + 1)) := by
  intro hG p e s mid args below meth cd Q kc ks hkc hks cx ls st M pc' ls' st' M' hg H locs la hR hS hL kk
  unfold g_iop at hg
  split at hg
  · cases hg
    exact lv_imul cx.1 cx.2.1 hd (kk H locs la hR hS hL)
  · cases hg
theorem snd_iand {l : Launch} {G : KG} {m pc : Nat} (hd : decode (kcode m) pc = .ok (.iand, 1)) : kSnd l G m pc (g_iop (fun x y => x &&& y) (pc + 1)) := by
  intro hG p e s mid args below meth cd Q kc ks hkc hks cx ls st M pc' ls' st' M' hg H locs la hR hS hL kk
  unfold g_iop at hg
  split at hg
  · cases hg
    exact lv_iand cx.1 cx.2.1 hd (kk H locs la hR hS hL)
  · cases hg
theorem snd_idiv {l : Launch} {G : KG} {m pc : Nat} (hd : decode (kcode m) pc = .ok (.idiv, 1)) : kSnd l G m pc (g_idiv (fun x y => x / y) (pc + 1)) := by
  intro hG p e s mid args below meth cd Q kc ks hkc hks cx ls st M pc' ls' st' M' hg H locs la hR hS hL kk
  unfold g_idiv at hg
  split at hg
  · split at hg
    · cases hg
    · rename_i hne
      cases hg
      exact lv_idiv cx.1 cx.2.1 hd hne (kk H locs la hR hS hL)
  · cases hg
theorem snd_irem {l : Launch} {G : KG} {m pc : Nat} (hd : decode (kcode m) pc = .ok (.irem, 1)) : kSnd l G m pc (g_idiv k_irem (pc + 1)) := by
  intro hG p e s mid args below meth cd Q kc ks hkc hks cx ls st M pc' ls' st' M' hg H locs la hR hS hL kk
  unfold g_idiv at hg
  split at hg
  · split at hg
    · cases hg
    · rename_i hne
      cases hg
      exact lv_irem cx.1 cx.2.1 hd hne (kk H locs la hR hS hL)
  · cases hg
theorem snd_ladd {l : Launch} {G : KG} {m pc : Nat} (hd : decode (kcode m) pc = .ok (.ladd, 1)) : kSnd l G m pc (g_lop (fun x y => x + y) (pc + 1)) := by
  intro hG p e s mid args below meth cd Q kc ks hkc hks cx ls st M pc' ls' st' M' hg H locs la hR hS hL kk
  unfold g_lop at hg
  split at hg
  · cases hg
    exact lv_ladd cx.1 cx.2.1 hd (kk H locs la hR hS hL)
  · cases hg
theorem snd_lmul {l : Launch} {G : KG} {m pc : Nat} (hd : decode (kcode m) pc = .ok (.lmul, 1)) : kSnd l G m pc (g_lop (fun x y => x * y) (pc + 1)) := by
  intro hG p e s mid args below meth cd Q kc ks hkc hks cx ls st M pc' ls' st' M' hg H locs la hR hS hL kk
  unfold g_lop at hg
  split at hg
  · cases hg
    exact lv_lmul cx.1 cx.2.1 hd (kk H locs la hR hS hL)
  · cases hg
theorem snd_ldiv {l : Launch} {G : KG} {m pc : Nat} (hd : decode (kcode m) pc = .ok (.ldiv, 1)) : kSnd l G m pc (g_ldiv (pc + 1)) := by
  intro hG p e s mid args below meth cd Q kc ks hkc hks cx ls st M pc' ls' st' M' hg H locs la hR hS hL kk
  unfold g_ldiv at hg
  split at hg
  · split at hg
    · cases hg
    · rename_i hne
      cases hg
      exact lv_ldiv cx.1 cx.2.1 hd hne (kk H locs la hR hS hL)
  · cases hg
theorem snd_lcmp {l : Launch} {G : KG} {m pc : Nat} (hd : decode (kcode m) pc = .ok (.lcmp, 1)) : kSnd l G m pc (g_lcmp (pc + 1)) := by
  intro hG p e s mid args below meth cd Q kc ks hkc hks cx ls st M pc' ls' st' M' hg H locs la hR hS hL kk
  unfold g_lcmp at hg
  split at hg
  · cases hg
    exact W.lcmp cx.1 cx.2.1 hd (kk H locs la hR hS hL)
  · cases hg
theorem snd_i2l {l : Launch} {G : KG} {m pc : Nat} (hd : decode (kcode m) pc = .ok (.i2l, 1)) : kSnd l G m pc (g_i2l (pc + 1)) := by
  intro hG p e s mid args below meth cd Q kc ks hkc hks cx ls st M pc' ls' st' M' hg H locs la hR hS hL kk
  unfold g_i2l at hg
  split at hg
  · cases hg
    exact lv_i2l cx.1 cx.2.1 hd rfl (kk H locs la hR hS hL)
  · cases hg
theorem snd_l2i {l : Launch} {G : KG} {m pc : Nat} (hd : decode (kcode m) pc = .ok (.l2i, 1)) : kSnd l G m pc (g_l2i (pc + 1)) := by
  intro hG p e s mid args below meth cd Q kc ks hkc hks cx ls st M pc' ls' st' M' hg H locs la hR hS hL kk
  unfold g_l2i at hg
  split at hg
  · cases hg
    exact lv_l2i cx.1 cx.2.1 hd rfl (kk H locs la hR hS hL)
  · cases hg
theorem snd_i2b {l : Launch} {G : KG} {m pc : Nat} (hd : decode (kcode m) pc = .ok (.i2b, 1)) : kSnd l G m pc (g_i2i k_i2b (pc + 1)) := by
  intro hG p e s mid args below meth cd Q kc ks hkc hks cx ls st M pc' ls' st' M' hg H locs la hR hS hL kk
  unfold g_i2i at hg
  split at hg
  · cases hg
    exact lv_i2b cx.1 cx.2.1 hd rfl (kk H locs la hR hS hL)
  · cases hg
theorem snd_i2c {l : Launch} {G : KG} {m pc : Nat} (hd : decode (kcode m) pc = .ok (.i2c, 1)) : kSnd l G m pc (g_i2i k_i2c (pc + 1)) := by
  intro hG p e s mid args below meth cd Q kc ks hkc hks cx ls st M pc' ls' st' M' hg H locs la hR hS hL kk
  unfold g_i2i at hg
  split at hg
  · cases hg
    exact lv_i2c cx.1 cx.2.1 hd rfl (kk H locs la hR hS hL)
  · cases hg
theorem snd_dup {l : Launch} {G : KG} {m pc : Nat} (hd : decode (kcode m) pc = .ok (.dup, 1)) : kSnd l G m pc (g_dup (pc + 1)) := by
  intro hG p e s mid args below meth cd Q kc ks hkc hks cx ls st M pc' ls' st' M' hg H locs la hR hS hL kk
  unfold g_dup at hg
  split at hg
  · split at hg
    · rename_i hc
      cases hg
      exact lv_dup cx.1 cx.2.1 hd (by rw [conc_cat]; exact kNL_cat.mp hc) (kk H locs la hR hS hL)
    · cases hg
  · cases hg
theorem snd_pop {l : Launch} {G : KG} {m pc : Nat} (hd : decode (kcode m) pc = .ok (.pop, 1)) : kSnd l G m pc (g_pop (pc + 1)) := by
  intro hG p e s mid args below meth cd Q kc ks hkc hks cx ls st M pc' ls' st' M' hg H locs la hR hS hL kk
  unfold g_pop at hg
  split at hg
  · split at hg
    · rename_i hc
      cases hg
      exact lv_pop cx.1 cx.2.1 hd (by rw [conc_cat]; exact kNL_cat.mp hc) (kk H locs la hR hS hL)
    · cases hg
  · cases hg
theorem snd_dup2 {l : Launch} {G : KG} {m pc : Nat} (hd : decode (kcode m) pc = .ok (.dup2, 1)) : kSnd l G m pc (g_dup2 (pc + 1)) := by
  intro hG p e s mid args below meth cd Q kc ks hkc hks cx ls st M pc' ls' st' M' hg H locs la hR hS hL kk
  unfold g_dup2 at hg
  split at hg
  · split at hg
    · rename_i hc
      simp only [Bool.and_eq_true] at hc
      cases hg
      exact lv_dup2_11 cx.1 cx.2.1 hd (by rw [conc_cat]; exact kNL_cat.mp hc.1) (by rw [conc_cat]; exact kNL_cat.mp hc.2) (kk H locs la hR hS hL)
    · cases hg
  · cases hg
theorem snd_goto {l : Launch} {G : KG} {m pc : Nat} {off : Int} {t : Nat} (hd : decode (kcode m) pc = .ok (.goto off, 3)) (ht : (pc : Int) + off = (t : Int)) : kSnd l G m pc (g_goto t) := by
  intro hG p e s mid args below meth cd Q kc ks hkc hks cx ls st M pc' ls' st' M' hg H locs la hR hS hL kk
  cases hg
  exact lv_goto cx.1 cx.2.1 hd ht (kk H locs la hR hS hL)
theorem snd_icmp_eq {l : Launch} {G : KG} {m pc : Nat} {off : Int} {t : Nat} (hd : decode (kcode m) pc = .ok (.if_icmp .eq off, 3)) (ht : (pc : Int) + off = (t : Int)) : kSnd l G m pc (g_br2 (fun x y => decide (x = y)) t (pc + 3)) := by
  intro hG p e s mid args below meth cd Q kc ks hkc hks cx ls st M pc' ls' st' M' hg H locs la hR hS hL kk
  unfold g_br2 at hg
  split at hg
  · rename_i y x r
    cases hg
    refine lv_icmp_eq cx.1 cx.2.1 hd ht (fun hc => ?_) (fun hc => ?_)
    · have := kk H locs la hR hS hL
      rwa [if_pos (by simpa using hc)] at this
    · have := kk H locs la hR hS hL
      rwa [if_neg (by simpa using hc)] at this
  · cases hg
theorem snd_if_eq {l : Launch} {G : KG} {m pc : Nat} {off : Int} {t : Nat} (hd : decode (kcode m) pc = .ok (.ifCond .eq off, 3)) (ht : (pc : Int) + off = (t : Int)) : kSnd l G m pc (g_br1 (fun x => decide (x = 0)) t (pc + 3)) := by
  intro hG p e s mid args below meth cd Q kc ks hkc hks cx ls st M pc' ls' st' M' hg H locs la hR hS hL kk
  unfold g_br1 at hg
  split at hg
  · rename_i x r
    cases hg
    refine lv_if_eq cx.1 cx.2.1 hd ht (fun hc => ?_) (fun hc => ?_)
    · have := kk H locs la hR hS hL
      rwa [if_pos (by simpa using hc)] at this
    · have := kk H locs la hR hS hL
      rwa [if_neg (by simpa using hc)] at this
  · cases hg
theorem snd_icmp_ne {l : Launch} {G : KG} {m pc : Nat} {off : Int} {t : Nat} (hd : decode (kcode m) pc = .ok (.if_icmp .ne off, 3)) (ht : (pc : Int) + off = (t : Int)) : kSnd l G m pc (g_br2 (fun x y => decide (¬ x = y)) t (pc + 3)) := by
  intro hG p e s mid args below meth cd Q kc ks hkc hks cx ls st M pc' ls' st' M' hg H locs la hR hS hL kk
  unfold g_br2 at hg
  split at hg
  · rename_i y x r
    cases hg
    refine lv_icmp_ne cx.1 cx.2.1 hd ht (fun hc => ?_) (fun hc => ?_)
    · have := kk H locs la hR hS hL
      rwa [if_pos (by simpa using hc)] at this
    · have := kk H locs la hR hS hL
      rwa [if_neg (by simpa using hc)] at this
  · cases hg
theorem snd_if_ne {l : Launch} {G : KG} {m pc : Nat} {off : Int} {t : Nat} (hd : decode (kcode m) pc = .ok (.ifCond .ne off, 3)) (ht : (pc : Int) + off = (t : Int)) : kSnd l G m pc (g_br1 (fun x => decide (¬ x = 0)) t (pc + 3)) := by
  intro hG p e s mid args below meth cd Q kc ks hkc hks cx ls st M pc' ls' st' M' hg H locs la hR hS hL kk
  unfold g_br1 at hg
  split at hg
  · rename_i x r
    cases hg
    refine lv_if_ne cx.1 cx.2.1 hd ht (fun hc => ?_) (fun hc => ?_)
    · have := kk H locs la hR hS hL
      rwa [if_pos (by simpa using hc)] at this
    · have := kk H locs la hR hS hL
      rwa [if_neg (by simpa using hc)] at this
  · cases hg
theorem snd_icmp_lt {l : Launch} {G : KG} {m pc : Nat} {off : Int} {t : Nat} (hd : decode (kcode m) pc = .ok (.if_icmp .lt off, 3)) (ht : (pc : Int) + off = (t : Int)) : kSnd l G m pc (g_br2 (fun x y => decide (x < y)) t (pc + 3)) := by
  intro hG p e s mid args below meth cd Q kc ks hkc hks cx ls st M pc' ls' st' M' hg H locs la hR hS hL kk
  unfold g_br2 at hg
  split at hg
  · rename_i y x r
    cases hg
    refine lv_icmp_lt cx.1 cx.2.1 hd ht (fun hc => ?_) (fun hc => ?_)
    · have := kk H locs la hR hS hL
      rwa [if_pos (by simpa using hc)] at this
    · have := kk H locs la hR hS hL
      rwa [if_neg (by simpa using hc)] at this
  · cases hg
theorem snd_if_lt {l : Launch} {G : KG} {m pc : Nat} {off : Int} {t : Nat} (hd : decode (kcode m) pc = .ok (.ifCond .lt off, 3)) (ht : (pc : Int) + off = (t : Int)) : kSnd l G m pc (g_br1 (fun x => decide (x < 0)) t (pc + 3)) := by
  intro hG p e s mid args below meth cd Q kc ks hkc hks cx ls st M pc' ls' st' M' hg H locs la hR hS hL kk
  unfold g_br1 at hg
  split at hg
  · rename_i x r
    cases hg
    refine lv_if_lt cx.1 cx.2.1 hd ht (fun hc => ?_) (fun hc => ?_)
    · have := kk H locs la hR hS hL
      rwa [if_pos (by simpa using hc)] at this
    · have := kk H locs la hR hS hL
      rwa [if_neg (by simpa using hc)] at this
  · cases hg
theorem snd_icmp_ge {l : Launch} {G : KG} {m pc : Nat} {off : Int} {t : Nat} (hd : decode (kcode m) pc = .ok (.if_icmp .ge off, 3)) (ht : (pc : Int) + off = (t : Int)) : kSnd l G m pc (g_br2 (fun x y => decide (y ≤ x)) t (pc + 3)) := by
  intro hG p e s mid args below meth cd Q kc ks hkc hks cx ls st M pc' ls' st' M' hg H locs la hR hS hL kk
  unfold g_br2 at hg
  split at hg
  · rename_i y x r
    cases hg
    refine lv_icmp_ge cx.1 cx.2.1 hd ht (fun hc => ?_) (fun hc => ?_)
    · have := kk H locs la hR hS hL
      rwa [if_pos (by simpa using hc)] at this
    · have := kk H locs la hR hS hL
      rwa [if_neg (by simpa using hc)] at this
  · cases hg
theorem snd_if_ge {l : Launch} {G : KG} {m pc : Nat} {off : Int} {t : Nat} (hd : decode (kcode m) pc = .ok (.ifCond .ge off, 3)) (ht : (pc : Int) + off = (t : Int)) : kSnd l G m pc (g_br1 (fun x => decide (0 ≤ x)) t (pc + 3)) := by
  intro hG p e s mid args below meth cd Q kc ks hkc hks cx ls st M pc' ls' st' M' hg H locs la hR hS hL kk
  unfold g_br1 at hg
  split at hg
  · rename_i x r
    cases hg
    refine lv_if_ge cx.1 cx.2.1 hd ht (fun hc => ?_) (fun hc => ?_)
    · have := kk H locs la hR hS hL
      rwa [if_pos (by simpa using hc)] at this
    · have := kk H locs la hR hS hL
      rwa [if_neg (by simpa using hc)] at this
  · cases hg
theorem snd_icmp_gt {l : Launch} {G : KG} {m pc : Nat} {off : Int} {t : Nat} (hd : decode (kcode m) pc = .ok (.if_icmp .gt off, 3)) (ht : (pc : Int) + off = (t : Int)) : kSnd l G m pc (g_br2 (fun x y => decide (y < x)) t (pc + 3)) := by
  intro hG p e s mid args below meth cd Q kc ks hkc hks cx ls st M pc' ls' st' M' hg H locs la hR hS hL kk
  unfold g_br2 at hg
  split at hg
  · rename_i y x r
    cases hg
    refine lv_icmp_gt cx.1 cx.2.1 hd ht (fun hc => ?_) (fun hc => ?_)
    · have := kk H locs la hR hS hL
      rwa [if_pos (by simpa using hc)] at this
    · have := kk H locs la hR hS hL
      rwa [if_neg (by simpa using hc)] at this
  · cases hg
theorem snd_if_gt {l : Launch} {G : KG} {m pc : Nat} {off : Int} {t : Nat} (hd : decode (kcode m) pc = .ok (.ifCond .gt off, 3)) (ht : (pc : Int) + off = (t : Int)) : kSnd l G m pc (g_br1 (fun x => decide (0 < x)) t (pc + 3)) := by
  intro hG p e s mid args below meth cd Q kc ks hkc hks cx ls st M pc' ls' st' M' hg H locs la hR hS hL kk
  unfold g_br1 at hg
  split at hg
  · rename_i x r
    cases hg
    refine lv_if_gt cx.1 cx.2.1 hd ht (fun hc => ?_) (fun hc => ?_)
    · have := kk H locs la hR hS hL
      rwa [if_pos (by simpa using hc)] at this
    · have := kk H locs la hR hS hL
      rwa [if_neg (by simpa using hc)] at this
  · cases hg
theorem snd_icmp_le {l : Launch} {G : KG} {m pc : Nat} {off : Int} {t : Nat} (hd : decode (kcode m) pc = .ok (.if_icmp .le off, 3)) (ht : (pc : Int) + off = (t : Int)) : kSnd l G m pc (g_br2 (fun x y => decide (x ≤ y)) t (pc + 3)) := by
  intro hG p e s mid args below meth cd Q kc ks hkc hks cx ls st M pc' ls' st' M' hg H locs la hR hS hL kk
  unfold g_br2 at hg
  split at hg
  · rename_i y x r
    cases hg
    refine lv_icmp_le cx.1 cx.2.1 hd ht (fun hc => ?_) (fun hc => ?_)
    · have := kk H locs la hR hS hL
      rwa [if_pos (by simpa using hc)] at this
    · have := kk H locs la hR hS hL
      rwa [if_neg (by simpa using hc)] at this
  · cases hg
theorem snd_if_le {l : Launch} {G : KG} {m pc : Nat} {off : Int} {t : Nat} (hd : decode (kcode m) pc = .ok (.ifCond .le off, 3)) (ht : (pc : Int) + off = (t : Int)) : kSnd l G m pc (g_br1 (fun x => decide (x ≤ 0)) t (pc + 3)) := by
  intro hG p e s mid args below meth cd Q kc ks hkc hks cx ls st M pc' ls' st' M' hg H locs la hR hS hL kk
  unfold g_br1 at hg
  split at hg
  · rename_i x r
    cases hg
    refine lv_if_le cx.1 cx.2.1 hd ht (fun hc => ?_) (fun hc => ?_)
    · have := kk H locs la hR hS hL
      rwa [if_pos (by simpa using hc)] at this
    · have := kk H locs la hR hS hL
      rwa [if_neg (by simpa using hc)] at this
  · cases hg
theorem snd_tsw {l : Launch} {G : KG} {m pc : Nat} {df hi : Int} {offs : Array Int} {len : Nat} {tg : List Nat} {dt : Nat} (hd : decode (kcode m) pc = .ok (.tableswitch df 0 hi offs, len)) (hdt : (pc : Int) + df = (dt : Int)) (hhi : hi = ((offs.size : Nat) : Int) - 1) (htg : offs.toList.map (fun z => (pc : Int) + z) = tg.map (fun z : Nat => (z : Int))) : kSnd l G m pc (g_tsw hi tg dt) := by
  intro hG p e s mid args below meth cd Q kc ks hkc hks cx ls st M pc' ls' st' M' hg H locs la hR hS hL kk
  unfold g_tsw at hg
  split at hg
  · rename_i x r
    cases hg
    have k2 := kk H locs la hR hS hL
    by_cases hc : x.toInt < 0 ∨ hi < x.toInt
    · rw [if_pos hc] at k2
      exact lv_tableOut cx.1 cx.2.1 hd hc hdt k2
    · rw [if_neg hc] at k2
      have hlt : x.toInt.toNat < offs.size := by omega
      have ho : offs[(x.toInt - 0).toNat]? = some offs[x.toInt.toNat] := by
        rw [Int.sub_zero]
        exact Array.getElem?_eq_getElem hlt
      have hlen : tg.length = offs.size := by
        have := congrArg List.length htg
        simpa using this.symm
      have ht : (pc : Int) + offs[x.toInt.toNat] = ((tg.getD x.toInt.toNat dt : Nat) : Int) := by
        have h1 := congrArg (fun z => z[x.toInt.toNat]?) htg
        simp only [List.getElem?_map, Array.getElem?_toList] at h1
        rw [Array.getElem?_eq_getElem hlt, List.getElem?_eq_getElem (by omega)] at h1
        simp only [Option.map_some, Option.some.injEq] at h1
        rw [h1, List.getD_eq_getElem?_getD, List.getElem?_eq_getElem (by omega)]
        rfl
      exact lv_tableIn cx.1 cx.2.1 hd (fun q => hc (Or.inl q)) (fun q => hc (Or.inr q)) ho ht k2
  · cases hg
theorem snd_lsw2 {l : Launch} {G : KG} {m pc : Nat} {df oa ob : Int} {a b : Int32} {ka kb : Int} {len ta tb dt : Nat} (hd : decode (kcode m) pc = .ok (.lookupswitch df #[(ka, oa), (kb, ob)], len)) (hdt : (pc : Int) + df = (dt : Int)) (hta : (pc : Int) + oa = (ta : Int)) (htb : (pc : Int) + ob = (tb : Int)) (ha : a.toInt = ka) (hb : b.toInt = kb) (hp : ((#[(ka, oa), (kb, ob)] : Array (Int × Int)).toList.zip ((#[(ka, oa), (kb, ob)] : Array (Int × Int)).toList.drop 1)).all (fun (a, next) => a.1 < next.1) = true) : kSnd l G m pc (g_lsw2 a b ta tb dt) := by
  intro hG p e s mid args below meth cd Q kc ks hkc hks cx ls st M pc' ls' st' M' hg H locs la hR hS hL kk
  unfold g_lsw2 at hg
  split at hg
  · rename_i x r
    cases hg
    have k2 := kk H locs la hR hS hL
    by_cases h1 : x = a
    · rw [if_pos h1] at k2
      subst h1
      refine lv_lookup cx.1 cx.2.1 hd hp ?_ hta k2
      show Op.lookupswitch.offset ((ka, oa) :: [(kb, ob)]) df x.toInt = oa
      rw [Op.lookupswitch.offset_cons, if_pos ha.symm]
    · rw [if_neg h1] at k2
      by_cases h2 : x = b
      · rw [if_pos h2] at k2
        subst h2
        refine lv_lookup cx.1 cx.2.1 hd hp ?_ htb k2
        show Op.lookupswitch.offset ((ka, oa) :: [(kb, ob)]) df x.toInt = ob
        rw [lv_osw h1 ha, Op.lookupswitch.offset_cons, if_pos hb.symm]
      · rw [if_neg h2] at k2
        refine lv_lookup cx.1 cx.2.1 hd hp ?_ hdt k2
        show Op.lookupswitch.offset ((ka, oa) :: [(kb, ob)]) df x.toInt = df
        rw [lv_osw h1 ha, lv_osw h2 hb]
        rfl
  · cases hg
theorem snd_gfi {l : Launch} {G : KG} {m pc : Nat} {idx c j N : Nat} {C : String} {T : u_T} (hd : decode (kcode m) pc = .ok (.getfield idx, 3)) (hcl : vwCl[c]? = some (C, T, N)) (hin : ∀ w ∈ u_ws C T N, w ∈ kgT) (hc5 : c < 5) (hN : knF c = N) (hj : j < N) (hr : kisR c j = false) (hl : Cond.fieldLink (kown m) idx (T j).1 (T j).2.1 (T j).2.2.1 ∈ kgT) : kSnd l G m pc (g_gfi c j (pc + 3)) := by
  intro hG p e s mid args below meth cd Q kc ks hkc hks cx ls st M pc' ls' st' M' hg H locs la hR hS hL kk
  unfold g_gfi at hg
  split at hg
  · rename_i k r
    split at hg
    · rename_i hk
      cases hg
      have he : (kw G M)[k]? = some (G.1 k, .inr (c, kfs G.1 k (M k))) := by rw [kw_get (kd_lt (by omega)), kentr_obj hk hc5]
      exact va_get (D := (G.2.1, G.2.2.1)) (ref := (T j).1) cx.1 cx.2.1 cx.2.2.2.2.2.1 hin cx.2.2.2.2.1 cx.2.2.2.2.2.2.2.1 hR k he hcl j hj (cx.word hl) (fun _ h => h) (by rw [kfs_get hk (by omega), hr]; rfl) hd (kk H locs la hR hS hL)
    · cases hg
  · cases hg
theorem snd_gfr {l : Launch} {G : KG} {m pc : Nat} {idx c j N : Nat} {C : String} {T : u_T} (hd : decode (kcode m) pc = .ok (.getfield idx, 3)) (hcl : vwCl[c]? = some (C, T, N)) (hin : ∀ w ∈ u_ws C T N, w ∈ kgT) (hc5 : c < 5) (hN : knF c = N) (hj : j < N) (hr : kisR c j = true) (hl : Cond.fieldLink (kown m) idx (T j).1 (T j).2.1 (T j).2.2.1 ∈ kgT) : kSnd l G m pc (g_gfr c j (pc + 3)) := by
  intro hG p e s mid args below meth cd Q kc ks hkc hks cx ls st M pc' ls' st' M' hg H locs la hR hS hL kk
  unfold g_gfr at hg
  split at hg
  · rename_i k r
    split at hg
    · rename_i hk
      cases hg
      have he : (kw G M)[k]? = some (G.1 k, .inr (c, kfs G.1 k (M k))) := by rw [kw_get (kd_lt (by omega)), kentr_obj hk hc5]
      exact va_get (D := (G.2.1, G.2.2.1)) (ref := (T j).1) cx.1 cx.2.1 cx.2.2.2.2.2.1 hin cx.2.2.2.2.1 cx.2.2.2.2.2.2.2.1 hR k he hcl j hj (cx.word hl) (fun _ h => h) (by rw [kfs_get hk (by omega), hr]; rfl) hd (kk H locs la hR hS hL)
    · cases hg
  · cases hg
theorem snd_pfi {l : Launch} {G : KG} {m pc : Nat} {idx c j N : Nat} {C : String} {T : u_T} (hd : decode (kcode m) pc = .ok (.putfield idx, 3)) (hcl : vwCl[c]? = some (C, T, N)) (hin : ∀ w ∈ u_ws C T N, w ∈ kgT) (hc5 : c < 5) (hN : knF c = N) (hj : j < N) (hr : kisR c j = false) (hl : Cond.fieldLink (kown m) idx (T j).1 (T j).2.1 (T j).2.2.1 ∈ kgT) (ty0 : Nat → FieldType) (hty0 : ∀ k, k < N → parseFieldDescriptor (T k).2.2.1 = some (ty0 k)) (hnm : ∀ a, a < N → ∀ b, b < N → a ≠ b → (T a).2.1 ≠ (T b).2.1) (hfin : (T j).2.2.2 = false) (hty : parseFieldDescriptor (T j).2.2.1 = some .int) : kSnd l G m pc (g_pfi c j (pc + 3)) := by
  intro hG p e s mid args below meth cd Q kc ks hkc hks cx ls st M pc' ls' st' M' hg H locs la hR hS hL kk
  unfold g_pfi at hg
  split at hg
  · rename_i v k r
    split at hg
    · rename_i hk9
      cases hg
      have hk := hk9
      have he : (kw G M)[k]? = some (G.1 k, .inr (c, kfs G.1 k (M k))) := by rw [kw_get (kd_lt (by omega)), kentr_obj hk hc5]
      refine va_put (D := (G.2.1, G.2.2.1)) (ref := (T j).1) (v := .int v) cx.1 cx.2.1 cx.2.2.2.2.2.1 hin ty0 hty0 hnm cx.2.2.2.2.1 cx.2.2.2.2.2.2.2.1 hR (kw_D hG) hS k he hcl j hj (cx.word hl) (fun _ h => h) hfin hty rfl rfl (by rw [kfs_len hk]; omega) hd (fun H1 locs1 hP1 hD1 hS1 => kk H1 locs1 la ?_ hS1 hL)
      unfold kRep
      rw [← kw_set (kd_lt (by omega)) (e := .inr (c, (kfs G.1 k (M k)).set j (.int v))) (by rw [kentr_obj hk hc5, kfs_set hk (by omega) hr])]
      exact hP1
    · cases hg
  · cases hg
theorem snd_pfz {l : Launch} {G : KG} {m pc : Nat} {idx c j N : Nat} {C : String} {T : u_T} (hd : decode (kcode m) pc = .ok (.putfield idx, 3)) (hcl : vwCl[c]? = some (C, T, N)) (hin : ∀ w ∈ u_ws C T N, w ∈ kgT) (hc5 : c < 5) (hN : knF c = N) (hj : j < N) (hr : kisR c j = false) (hl : Cond.fieldLink (kown m) idx (T j).1 (T j).2.1 (T j).2.2.1 ∈ kgT) (ty0 : Nat → FieldType) (hty0 : ∀ k, k < N → parseFieldDescriptor (T k).2.2.1 = some (ty0 k)) (hnm : ∀ a, a < N → ∀ b, b < N → a ≠ b → (T a).2.1 ≠ (T b).2.1) (hfin : (T j).2.2.2 = false) (hty : parseFieldDescriptor (T j).2.2.1 = some .boolean) : kSnd l G m pc (g_pfz c j (pc + 3)) := by
  intro hG p e s mid args below meth cd Q kc ks hkc hks cx ls st M pc' ls' st' M' hg H locs la hR hS hL kk
  unfold g_pfz at hg
  split at hg
  · rename_i v k r
    split at hg
    · rename_i hk9
      cases hg
      obtain ⟨hk, hv⟩ := hk9
      have he : (kw G M)[k]? = some (G.1 k, .inr (c, kfs G.1 k (M k))) := by rw [kw_get (kd_lt (by omega)), kentr_obj hk hc5]
      refine va_put (D := (G.2.1, G.2.2.1)) (ref := (T j).1) (v := .int v) cx.1 cx.2.1 cx.2.2.2.2.2.1 hin ty0 hty0 hnm cx.2.2.2.2.1 cx.2.2.2.2.2.2.2.1 hR (kw_D hG) hS k he hcl j hj (cx.word hl) (fun _ h => h) hfin hty (by rcases hv with rfl | rfl <;> rfl) (by rcases hv with rfl | rfl <;> rfl) (by rw [kfs_len hk]; omega) hd (fun H1 locs1 hP1 hD1 hS1 => kk H1 locs1 la ?_ hS1 hL)
      unfold kRep
      rw [← kw_set (kd_lt (by omega)) (e := .inr (c, (kfs G.1 k (M k)).set j (.int v))) (by rw [kentr_obj hk hc5, kfs_set hk (by omega) hr])]
      exact hP1
    · cases hg
  · cases hg
theorem snd_pald5 {l : Launch} {G : KG} {m pc : Nat} (hd : decode (kcode m) pc = .ok (.iaload, 1)) : kSnd l G m pc (g_pald 5 (pc + 1)) := by
  intro hG p e s mid args below meth cd Q kc ks hkc hks cx ls st M pc' ls' st' M' hg H locs la hR hS hL kk
  unfold g_pald at hg
  split at hg
  · rename_i i k r
    split at hg
    · rename_i hk
      cases hg
      exact va_iald (D := (G.2.1, G.2.2.1)) cx.1 cx.2.1 cx.2.2.2.2.2.2.2.1 hR k 0 (f := M k) (n := ln k) (by rw [kw_get (kd_lt (by omega)), kentr_arr hk.1 (by omega) (by omega)]) rfl (kin_in hk.2) hd (kk H locs la hR hS hL)
    · cases hg
  · cases hg
theorem snd_past5 {l : Launch} {G : KG} {m pc : Nat} (hd : decode (kcode m) pc = .ok (.iastore, 1)) : kSnd l G m pc (g_past 5 (pc + 1)) := by
  intro hG p e s mid args below meth cd Q kc ks hkc hks cx ls st M pc' ls' st' M' hg H locs la hR hS hL kk
  unfold g_past at hg
  split at hg
  · rename_i x i k r
    split at hg
    · rename_i hk
      cases hg
      refine va_iast (D := (G.2.1, G.2.2.1)) cx.1 cx.2.1 cx.2.2.2.2.2.2.2.1 hR (kw_D hG) hS k 0 (f := M k) (n := ln k) (by rw [kw_get (kd_lt (by omega)), kentr_arr hk.1 (by omega) (by omega)]) rfl (kin_in hk.2) hd (fun H1 locs1 hP1 hD1 hS1 => kk H1 locs1 la ?_ hS1 hL)
      unfold kRep
      rw [← kw_set (kd_lt (by omega)) (e := .inl (G.2.2.2.1 5, ln k, .inl (upd (M k) i.toNatClampNeg x))) (by rw [kentr_arr hk.1 (by omega) (by omega)]; rfl)]
      exact hP1
    · cases hg
  · cases hg
theorem snd_aald9 {l : Launch} {G : KG} {m pc : Nat} (hd : decode (kcode m) pc = .ok (.aaload, 1)) : kSnd l G m pc (g_aald 9 (pc + 1)) := by
  intro hG p e s mid args below meth cd Q kc ks hkc hks cx ls st M pc' ls' st' M' hg H locs la hR hS hL kk
  unfold g_aald at hg
  split at hg
  · rename_i i k r
    split at hg
    · rename_i hk
      cases hg
      exact va_aldq (D := (G.2.1, G.2.2.1)) cx.1 cx.2.1 cx.2.2.2.2.2.2.2.1 hR k 3 (C := RX2) (f := fun j => some (G.1 (rf k j))) (n := ln k) (by rw [kw_get (kd_lt (by omega)), kentr_ref hk.1 (by omega)]) rfl (kin_in hk.2) hd (kk H locs la hR hS hL)
    · cases hg
  · cases hg
theorem snd_aald10 {l : Launch} {G : KG} {m pc : Nat} (hd : decode (kcode m) pc = .ok (.aaload, 1)) : kSnd l G m pc (g_aald 10 (pc + 1)) := by
  intro hG p e s mid args below meth cd Q kc ks hkc hks cx ls st M pc' ls' st' M' hg H locs la hR hS hL kk
  unfold g_aald at hg
  split at hg
  · rename_i i k r
    split at hg
    · rename_i hk
      cases hg
      exact va_aldq (D := (G.2.1, G.2.2.1)) cx.1 cx.2.1 cx.2.2.2.2.2.2.2.1 hR k 4 (C := RX1) (f := fun j => some (G.1 (rf k j))) (n := ln k) (by rw [kw_get (kd_lt (by omega)), kentr_ref hk.1 (by omega)]) rfl (kin_in hk.2) hd (kk H locs la hR hS hL)
    · cases hg
  · cases hg
theorem snd_alen {l : Launch} {G : KG} {m pc : Nat} (hd : decode (kcode m) pc = .ok (.arraylength, 1)) : kSnd l G m pc (g_alen (pc + 1)) := by
  intro hG p e s mid args below meth cd Q kc ks hkc hks cx ls st M pc' ls' st' M' hg H locs la hR hS hL kk
  unfold g_alen at hg
  split at hg
  · rename_i k r
    split at hg
    · rename_i hk
      cases hg
      exact va_alen (D := (G.2.1, G.2.2.1)) cx.1 cx.2.1 cx.2.2.2.2.2.2.2.1 hR k 0 (x := (ln k, .inl (M k))) (ty := .int) (v := nI (ln k)) (by rw [kw_get (kd_lt (by omega)), kentr_arr hk (by omega) (by omega)]) rfl rfl hd (kk H locs la hR hS hL)
    · cases hg
  · cases hg
theorem kcat_map (ad : Nat → Nat) (r : List Value) : ((r.map (conc ad)).map fun v => v.category).sum = kcat r := by
  unfold kcat
  rw [List.map_map]
  congr 2
  funext v
  exact conc_cat ad v
theorem snd_imax {l : Launch} {G : KG} {m pc : Nat} {idx : Nat} (hd : decode (kcode m) pc = .ok (.invokestatic idx, 3)) (hl : Cond.methodLink (kown m) idx Lib.Math.max.name ∈ kgT) (hs : Cond.static Lib.Math.max.name ∈ kgT) (hi : Cond.initialized "java/lang/Math" ∈ kgT) (hc : Cond.code Lib.Math.max.name Lib.Math.max.code 2 (some .int) ∈ kgT) (hf : 1 ≤ krf m) (ho : 8 + 15 ≤ krl m) : kSnd l G m pc (g_imax (pc + 3)) := by
  intro hG p e s mid args below meth cd Q kc ks hkc hks cx ls st M pc' ls' st' M' hg H locs la hR hS hL kk
  unfold g_imax at hg
  split at hg
  · rename_i y x r
    split at hg
    · rename_i hk
      cases hg
      exact va_mmax cx.1 cx.2.1 (cx.2.2.1.trans hL.2.1.symm) cx.2.2.2.2.1 (cx.word hl) (cx.word hs) (cx.word hi) (cx.word hc) hf (by show ((r.map (conc G.1)).map fun v => v.category).sum + _ ≤ krl m; rw [kcat_map]; omega) hkc hks hd (kk H locs la hR hS hL)
    · cases hg
  · cases hg
theorem snd_imin {l : Launch} {G : KG} {m pc : Nat} {idx : Nat} (hd : decode (kcode m) pc = .ok (.invokestatic idx, 3)) (hl : Cond.methodLink (kown m) idx Lib.Math.min.name ∈ kgT) (hs : Cond.static Lib.Math.min.name ∈ kgT) (hi : Cond.initialized "java/lang/Math" ∈ kgT) (hc : Cond.code Lib.Math.min.name Lib.Math.min.code 2 (some .int) ∈ kgT) (hf : 1 ≤ krf m) (ho : 8 + 15 ≤ krl m) : kSnd l G m pc (g_imin (pc + 3)) := by
  intro hG p e s mid args below meth cd Q kc ks hkc hks cx ls st M pc' ls' st' M' hg H locs la hR hS hL kk
  unfold g_imin at hg
  split at hg
  · rename_i y x r
    split at hg
    · rename_i hk
      cases hg
      exact va_mmin cx.1 cx.2.1 (cx.2.2.1.trans hL.2.1.symm) cx.2.2.2.2.1 (cx.word hl) (cx.word hs) (cx.word hi) (cx.word hc) hf (by show ((r.map (conc G.1)).map fun v => v.category).sum + _ ≤ krl m; rw [kcat_map]; omega) hkc hks hd (kk H locs la hR hS hL)
    · cases hg
  · cases hg
theorem snd_lmax {l : Launch} {G : KG} {m pc : Nat} {idx : Nat} (hd : decode (kcode m) pc = .ok (.invokestatic idx, 3)) (hl : Cond.methodLink (kown m) idx Lib.MathLoose.max_long.x ∈ kgT) (hs : Cond.static Lib.MathLoose.max_long.x ∈ kgT) (hi : Cond.initialized "java/lang/Math" ∈ kgT) (hc : Cond.code Lib.MathLoose.max_long.x Lib.MathLoose.max_long.code 4 (some .long) ∈ kgT) (hf : 1 ≤ krf m) (ho : 8 + 15 ≤ krl m) : kSnd l G m pc (g_lmax (pc + 3)) := by
  intro hG p e s mid args below meth cd Q kc ks hkc hks cx ls st M pc' ls' st' M' hg H locs la hR hS hL kk
  unfold g_lmax at hg
  split at hg
  · rename_i y x r
    split at hg
    · rename_i hk
      cases hg
      exact va_mmax_long cx.1 cx.2.1 (cx.2.2.1.trans hL.2.1.symm) cx.2.2.2.2.1 (cx.word hl) (cx.word hs) (cx.word hi) (cx.word hc) hf (by show ((r.map (conc G.1)).map fun v => v.category).sum + _ ≤ krl m; rw [kcat_map]; omega) hkc hks hd (kk H locs la hR hS hL)
    · cases hg
  · cases hg
theorem snd_acp {l : Launch} {G : KG} {m pc : Nat} {idx : Nat} (hd : decode (kcode m) pc = .ok (.invokestatic idx, 3)) (hl : Cond.methodLink (kown m) idx arraycopyName ∈ kgT) (hn : Cond.native arraycopyName ∈ kgT) (hs : Cond.static arraycopyName ∈ kgT) (hi : Cond.initialized "java/lang/System" ∈ kgT) (hf : 1 ≤ krf m) (ho : 8 + (nativeFrameWords "java/lang/System" "arraycopy" 5 + 11) ≤ krl m) : kSnd l G m pc (g_acp (pc + 3)) := by
  intro hG p e s mid args below meth cd Q kc ks hkc hks cx ls st M pc' ls' st' M' hg H locs la hR hS hL kk
  unfold g_acp at hg
  split at hg
  · rename_i n dp b sp a r
    split at hg
    · rename_i hk
      cases hg
      obtain ⟨ha, hb, h1, h2, h3, h4, h5, h6⟩ := hk
      refine va_copyi (D := (G.2.1, G.2.2.1)) cx.1 cx.2.1 (cx.2.2.1.trans hL.2.1.symm) cx.2.2.2.2.1 (cx.word hl) (cx.word hn) (cx.word hs) (cx.word hi) cx.2.2.2.2.2.2.2.1 hR (kw_D hG) hS a b 0 0 (f := M a) (g := M b) (n0 := ln a) (n1 := ln b) (ty := .int) (by rw [kw_get (kd_lt (by omega)), kentr_arr ha (by omega) (by omega)]) (by rw [kw_get (kd_lt (by omega)), kentr_arr hb (by omega) (by omega)]) rfl rfl rfl h1 h2 h3 h4 h5 (fun _ _ => rfl) hf (by show ((st'.map (conc G.1)).map fun v => v.category).sum + _ ≤ krl m; rw [kcat_map]; omega) hd (fun H1 locs1 hP1 hD1 hS1 => kk H1 locs1 la ?_ hS1 hL)
      unfold kRep kcpy
      rw [← kw_setRow (kd_lt (by omega)) (e := .inl (G.2.2.2.1 5, ln b, .inl (va_cpy (M a) (M b) sp.toNatClampNeg dp.toNatClampNeg n.toNatClampNeg))) (by rw [kentr_arr hb (by omega) (by omega)])]
      exact hP1
    · cases hg
  · cases hg
