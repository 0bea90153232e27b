/-! the reference: sums over the trays; splitting; saved states -/
theorem sub_sub32 (a b c : Nat) (h : b + c ≤ a) : nI (a - b) - nI c = nI (a - (b + c)) := by rw [pk_sub (by omega), Nat.sub_sub]
