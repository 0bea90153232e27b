/-! the calls that read an analysis -/
theorem z49 {p : NR} {N : Nat} (h : Inv p N) : (nI (p 49) = 0) ↔ p 49 = 0 := nI_eq_iff (b := 0) (by have := h.f49; omega) (by decide)
theorem m1_sub {n : Nat} (h : 1 ≤ n) : nI n - 1 = nI (n - 1) := by rw [show (1 : Int32) = nI 1 from rfl, pk_sub h]
theorem sieve_rng {x : Int32} {n : Nat} (hn : n ≤ 6) : ¬ (0 ≤ x ∧ x ≤ nI n - 1) ∨ ∃ t, t < n ∧ x = nI t := by
  by_cases h0 : n = 0
  · subst h0
    left
    intro ⟨q1, q2⟩
    rw [Int32.le_iff_toInt_le] at q1 q2
    have a : (nI 0 - 1 : Int32).toInt = -1 := rfl
    have b : (0 : Int32).toInt = 0 := rfl
    omega
  · rw [m1_sub (by omega)]
    rcases rng x 0 (n - 1) (by omega) (by decide) with h | ⟨t, _, ht, e⟩
    · exact Or.inl h
    · exact Or.inr ⟨t, by omega, e⟩
theorem Inv.band {p : NR} {N : Nat} (h : Inv p N) : ∀ i, 31 ≤ i → i < 49 → p i ≤ 1000 := h.2.2.2.2.2.2.2.2.2.1
theorem Inv.smp {p : NR} {N : Nat} (h : Inv p N) : ∀ k, k < 10 → p k ≤ 9999 := h.1
theorem sum0_le {p : NR} {N : Nat} (h : Inv p N) : sumN p 0 ≤ 99990 := nsum_le (c := 9999) (fun k hk => by rw [Nat.zero_add]; exact h.1 k hk)
def lossV (p : NR) : Int32 := if p 49 = 0 then -2 else nI (lostN p)
theorem x_loss {S : KS} {N : Nat} {M : KMem} (hI : IS S N) (hX : XR S M) (Q : Option Value → KMem → Prop) : kE 33 0 [.ref 0] [] M Q = Q (some (.int (lossV S.1))) M := by
  have hn := hI.1.f24
  have z := z49 hI.1
  have ht := hI.1.tot
  refine kE_det ?_ Q
  have e : M 1 10 = nI (S.1 49) := hX.1.f49
  simp only [e33_0, e33_1, e33_4, e33_7, e33_10, e33_12, e33_13, e33_14, e33_17, e33_20, eq_self, kcat_nil, kcat_int, kcat_long, kcat_ref, kNL_int, kNL_ref, kNL_null, Option.toList_some, Option.toList_none, List.nil_append, List.cons_append, Nat.reduceAdd, Nat.reduceLeDiff, Nat.reduceEqDiff, true_and, and_true, true_or, or_true, false_or, or_false, ite_true, ite_false, tp1, tp5, tp18, e, z, x_lostMass st1 hX.1 hn ht.1]
  unfold lossV
  by_cases h : S.1 49 = 0
  · rw [if_neg (fun q => q h), if_pos h]
  · rw [if_pos h, if_neg h]
