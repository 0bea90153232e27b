/-! the law's loop -/
theorem and31 (v : Int32) : ∃ k, k < 32 ∧ v &&& 31 = nI k := by
  refine ⟨(v &&& 31).toBitVec.toNat, ?_, ?_⟩
  · have e : (v &&& 31).toBitVec.toNat = v.toBitVec.toNat &&& 31 := by
      rw [Int32.toBitVec_and, BitVec.toNat_and]
      rfl
    have := Nat.and_le_right (n := v.toBitVec.toNat) (m := 31)
    omega
  · apply Int32.toBitVec_inj.mp
    show (v &&& 31).toBitVec = (Int32.ofNat _).toBitVec
    rw [Int32.toBitVec_ofNat']
    simp
theorem sub5 : ∀ L, L < 2561 → (nI L - 5).toInt = (L : Int) - 5 := by decide +kernel
section LAW
variable {l : Launch} {G : KG} {p : Program} {e : Env} {s : State} {mid : MethodId} {below : List Frame} {meth : Method} {cd : Code} {Q : State → Prop} {b L kc ks : Nat} {xs : Nat → Int32}
theorem law_loop (cx : lCx G p s mid meth cd b) (hG : kOK G) (hX : va_X b L xs s s.heap) (hbl : b < s.heap.size) (hbA : ¬ G.2.2.2.2 b) (hL : L ≤ 2560) (hcs : kc + 0 ≤ room_1.cells ∧ ks + 0 ≤ room_1.slots)
    (fin : ∀ (H : Heap) (locs : List Loc) (la : Array Slot), va_S G.2.2.2.2 s.heap H locs → W p l e room_1 s mid #[Value.ref b] below meth cd H locs kc ks Q (F0 mid 837 la [])) :
    ∀ n i N : Nat, L + 5 ≤ i + n → i = 5 * N → i ≤ L → ∀ (la : Array Slot) (H : Heap) (locs : List Loc) (S : KS), lv_has la 4 [(0, .ref b), (1, .ref (G.1 0)), (2, .ref (G.1 166)), (3, .int (nI i))] → va_S G.2.2.2.2 s.heap H locs → (∃ M, kRep G M H ∧ XR S M ∧ YR S M) → IS S N → W p l e room_1 s mid #[Value.ref b] below meth cd H locs kc ks Q (F0 mid 18 la []) := by
  obtain ⟨hx, hb, -, -, -, -, -, -⟩ := id cx
  intro n
  induction n with
  | zero => intro i N h1 h2 h3; omega
  | succ n ih =>
    intro i N h1 h2 h3 la H locs S hla hS hM hI
    refine lv_iload_n hx hb dL_law_18 rfl (lv_at hla 3 rfl) ?_
    refine lv_aload_n hx hb dL_law_19 rfl (lv_at hla 0 rfl) ?_
    refine va_slen hx hb hX hbl hbA hS dL_law_20 ?_
    refine lv_iconst (v := 5) hx hb dL_law_21 (by decide) ?_
    refine lv_isub hx hb dL_law_22 ?_
    refine lv_icmp_gt (tgt := 837) hx hb dL_law_23 (by decide) (fun _ => fin H locs la hS) (fun c => ?_)
    have hi5 : i + 5 ≤ L := by
      have c : ¬ (nI L - 5) < nI i := c
      rw [Int32.lt_iff_toInt_lt, sub5 L (by omega), nI_toInt (by omega)] at c
      omega
    have hN : N < 512 := by omega
    refine lv_aload_n hx hb dL_law_26 rfl (lv_at hla 0 rfl) ?_
    refine lv_iload_n hx hb dL_law_27 rfl (lv_at hla 3 rfl) ?_
    refine va_sld hx hb hX hbl hbA hS (vp_in_nI (show i < L by omega) (by omega)) dL_law_28 ?_
    refine lv_bipush (v := 31) hx hb dL_law_29 (by decide) ?_
    refine lv_iand hx hb dL_law_31 ?_
    have kk : lNx l G p e s mid below meth cd Q b L i N kc ks la := by
      intro H1 locs1 S1 hS1 hM1 hI1
      refine lv_iinc (v := nI (i + 5)) (lv' := [(3, .int (nI (i + 5))), (0, .ref b), (1, .ref (G.1 0)), (2, .ref (G.1 166))]) hx hb dL_law_831 hla (k := 3) rfl (by rw [← nI_add]; rfl) (by decide) rfl (fun ls hl => ?_)
      refine lv_goto (tgt := 18) hx hb dL_law_834 (by decide) ?_
      exact ih (i + 5) (N + 1) (by omega) (by omega) hi5 ls H1 locs1 S1 (lv_sub hl [1, 2, 3, 0] rfl) hS1 hM1 hI1
    obtain ⟨k, hk, ek⟩ := and31 (xs (nI i).toNatClampNeg)
    rw [ek]
    have st : lSt G s b L i la H locs S N := ⟨hla, hS, hM, hI, hN, hi5⟩
    match k, hk with
    | 0, _ => exact lv_tableIn (tgt := 164) hx hb dL_law_32 (by decide) (by decide) (off := 132) rfl (by decide) (lop_0 cx hG hX hbl hbA hL hcs st kk)
    | 1, _ => exact lv_tableIn (tgt := 197) hx hb dL_law_32 (by decide) (by decide) (off := 165) rfl (by decide) (lop_1 cx hG hX hbl hbA hL hcs st kk)
    | 2, _ => exact lv_tableIn (tgt := 220) hx hb dL_law_32 (by decide) (by decide) (off := 188) rfl (by decide) (lop_2 cx hG hX hbl hbA hL hcs st kk)
    | 3, _ => exact lv_tableIn (tgt := 243) hx hb dL_law_32 (by decide) (by decide) (off := 211) rfl (by decide) (lop_3 cx hG hX hbl hbA hL hcs st kk)
    | 4, _ => exact lv_tableIn (tgt := 266) hx hb dL_law_32 (by decide) (by decide) (off := 234) rfl (by decide) (lop_4 cx hG hX hbl hbA hL hcs st kk)
    | 5, _ => exact lv_tableIn (tgt := 289) hx hb dL_law_32 (by decide) (by decide) (off := 257) rfl (by decide) (lop_5 cx hG hX hbl hbA hL hcs st kk)
    | 6, _ => exact lv_tableIn (tgt := 302) hx hb dL_law_32 (by decide) (by decide) (off := 270) rfl (by decide) (lop_6 cx hG hX hbl hbA hL hcs st kk)
    | 7, _ => exact lv_tableIn (tgt := 325) hx hb dL_law_32 (by decide) (by decide) (off := 293) rfl (by decide) (lop_7 cx hG hX hbl hbA hL hcs st kk)
    | 8, _ => exact lv_tableIn (tgt := 338) hx hb dL_law_32 (by decide) (by decide) (off := 306) rfl (by decide) (lop_8 cx hG hX hbl hbA hL hcs st kk)
    | 9, _ => exact lv_tableIn (tgt := 351) hx hb dL_law_32 (by decide) (by decide) (off := 319) rfl (by decide) (lop_9 cx hG hX hbl hbA hL hcs st kk)
    | 10, _ => exact lv_tableIn (tgt := 374) hx hb dL_law_32 (by decide) (by decide) (off := 342) rfl (by decide) (lop_10 cx hG hX hbl hbA hL hcs st kk)
    | 11, _ => exact lv_tableIn (tgt := 397) hx hb dL_law_32 (by decide) (by decide) (off := 365) rfl (by decide) (lop_11 cx hG hX hbl hbA hL hcs st kk)
    | 12, _ => exact lv_tableIn (tgt := 450) hx hb dL_law_32 (by decide) (by decide) (off := 418) rfl (by decide) (lop_12 cx hG hX hbl hbA hL hcs st kk)
    | 13, _ => exact lv_tableIn (tgt := 493) hx hb dL_law_32 (by decide) (by decide) (off := 461) rfl (by decide) (lop_13 cx hG hX hbl hbA hL hcs st kk)
    | 14, _ => exact lv_tableIn (tgt := 516) hx hb dL_law_32 (by decide) (by decide) (off := 484) rfl (by decide) (lop_14 cx hG hX hbl hbA hL hcs st kk)
    | 15, _ => exact lv_tableIn (tgt := 549) hx hb dL_law_32 (by decide) (by decide) (off := 517) rfl (by decide) (lop_15 cx hG hX hbl hbA hL hcs st kk)
    | 16, _ => exact lv_tableIn (tgt := 582) hx hb dL_law_32 (by decide) (by decide) (off := 550) rfl (by decide) (lop_16 cx hG hX hbl hbA hL hcs st kk)
    | 17, _ => exact lv_tableIn (tgt := 595) hx hb dL_law_32 (by decide) (by decide) (off := 563) rfl (by decide) (lop_17 cx hG hX hbl hbA hL hcs st kk)
    | 18, _ => exact lv_tableIn (tgt := 618) hx hb dL_law_32 (by decide) (by decide) (off := 586) rfl (by decide) (lop_18 cx hG hX hbl hbA hL hcs st kk)
    | 19, _ => exact lv_tableIn (tgt := 641) hx hb dL_law_32 (by decide) (by decide) (off := 609) rfl (by decide) (lop_19 cx hG hX hbl hbA hL hcs st kk)
    | 20, _ => exact lv_tableIn (tgt := 674) hx hb dL_law_32 (by decide) (by decide) (off := 642) rfl (by decide) (lop_20 cx hG hX hbl hbA hL hcs st kk)
    | 21, _ => exact lv_tableIn (tgt := 687) hx hb dL_law_32 (by decide) (by decide) (off := 655) rfl (by decide) (lop_21 cx hG hX hbl hbA hL hcs st kk)
    | 22, _ => exact lv_tableIn (tgt := 700) hx hb dL_law_32 (by decide) (by decide) (off := 668) rfl (by decide) (lop_22 cx hG hX hbl hbA hL hcs st kk)
    | 23, _ => exact lv_tableIn (tgt := 723) hx hb dL_law_32 (by decide) (by decide) (off := 691) rfl (by decide) (lop_23 cx hG hX hbl hbA hL hcs st kk)
    | 24, _ => exact lv_tableIn (tgt := 736) hx hb dL_law_32 (by decide) (by decide) (off := 704) rfl (by decide) (lop_24 cx hG hX hbl hbA hL hcs st kk)
    | 25, _ => exact lv_tableIn (tgt := 749) hx hb dL_law_32 (by decide) (by decide) (off := 717) rfl (by decide) (lop_25 cx hG hX hbl hbA hL hcs st kk)
    | 26, _ => exact lv_tableIn (tgt := 772) hx hb dL_law_32 (by decide) (by decide) (off := 740) rfl (by decide) (lop_26 cx hG hX hbl hbA hL hcs st kk)
    | 27, _ => exact lv_tableIn (tgt := 795) hx hb dL_law_32 (by decide) (by decide) (off := 763) rfl (by decide) (lop_27 cx hG hX hbl hbA hL hcs st kk)
    | 28, _ => exact lv_tableIn (tgt := 818) hx hb dL_law_32 (by decide) (by decide) (off := 786) rfl (by decide) (lop_28 cx hG hX hbl hbA hL hcs st kk)
    | k + 29, hk => exact lv_tableOut (tgt := 831) hx hb dL_law_32 (Or.inr (by rw [nI_toInt (by omega)]; omega)) (by decide) (kk H locs S hS hM hI.mono)
end LAW
