/-! the reference's small methods -/
theorem li2 : (2 : Int32) = nI 2 := rfl
theorem li10 : (10 : Int32) = nI 10 := rfl
theorem li11 : (11 : Int32) = nI 11 := rfl
theorem li12 : (12 : Int32) = nI 12 := rfl
theorem li20 : (20 : Int32) = nI 20 := rfl
theorem li21 : (21 : Int32) = nI 21 := rfl
theorem li22 : (22 : Int32) = nI 22 := rfl
theorem li23 : (23 : Int32) = nI 23 := rfl
theorem li24 : (24 : Int32) = nI 24 := rfl
theorem li25 : (25 : Int32) = nI 25 := rfl
theorem li31 : (31 : Int32) = nI 31 := rfl
theorem li49 : (49 : Int32) = nI 49 := rfl
theorem li50 : (50 : Int32) = nI 50 := rfl
theorem li51 : (51 : Int32) = nI 51 := rfl
theorem li52 : (52 : Int32) = nI 52 := rfl
theorem li53 : (53 : Int32) = nI 53 := rfl
theorem li137 : (137 : Int32) = nI 137 := rfl
theorem li685 : (685 : Int32) = nI 685 := rfl
theorem li1000 : (1000 : Int32) = nI 1000 := rfl
theorem kinN {j n : Nat} (h : j < n ∧ n < 2 ^ 31) : kin (nI j) n = true := kin_nI h.1 h.2
theorem clN {n : Nat} (h : n < 2 ^ 31) : (nI n).toNatClampNeg = n := nI_clamp h
theorem sieve_in {t n : Nat} (ht : t < n) (hn : n ≤ 6) : (0 : Int32) ≤ nI t ∧ nI t ≤ nI n - 1 := by
  refine ⟨nI_pos' (by omega), ?_⟩
  rw [show (1 : Int32) = nI 1 from rfl, pk_sub (by omega)]
  exact nI_le (by omega) (by omega)
theorem sieve_out {n : Nat} (hn : n ≤ 6) : ¬ ((0 : Int32) ≤ nI n ∧ nI n ≤ nI n - 1) := by
  intro ⟨_, q⟩
  rw [Int32.le_iff_toInt_le, show (1 : Int32) = nI 1 from rfl, pk_sub_toInt (by omega) (by decide), nI_toInt (by omega)] at q
  omega
