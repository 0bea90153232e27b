/-! THE SMALL MACHINE: a walk of a method over a memory of ints with a fixed layout of 166 cells (the bench's, as they stand after the constructor); 166 is the script, which is no cell of the world.
Its steps are functions; part 06 shows that the machine itself does what they do. -/
abbrev KMem : Type := Nat → Nat → Int32
abbrev KC : Type := Nat × List Value × List Value × KMem
abbrev KF : Type := List Value → List Value → KMem → Option KC
abbrev KOp : Type := KF ⊕ (Nat × Nat × Nat) ⊕ Nat
def mset (M : KMem) (k j : Nat) (v : Int32) : KMem := fun a => if a = k then upd (M k) j v else M a
theorem mset_row (M : KMem) (k j : Nat) (v : Int32) : mset M k j v k = upd (M k) j v := if_pos rfl
theorem mset_off {M : KMem} {k j : Nat} {v : Int32} {a : Nat} (h : a ≠ k) : mset M k j v a = M a := if_neg h
theorem mset_eq (M : KMem) (k j : Nat) (v : Int32) : mset M k j v k j = v := by rw [mset_row]; exact if_pos rfl
theorem mset_ne {M : KMem} {k j : Nat} {v : Int32} {a b : Nat} (h : ¬ (a = k ∧ b = j)) : mset M k j v a b = M a b := by
  by_cases ha : a = k
  · subst ha
    rw [mset_row]
    exact if_neg (fun q => h ⟨rfl, q⟩)
  · rw [mset_off ha]
theorem mset_apply (M : KMem) (k j : Nat) (v : Int32) (a b : Nat) : mset M k j v a b = if a = k ∧ b = j then v else M a b := by
  by_cases h : a = k ∧ b = j
  · rw [if_pos h, h.1, h.2, mset_eq]
  · rw [if_neg h, mset_ne h]
/-- what kind of cell: 0 to 4 an object of that class, 5 int[], 6 char[], 7 boolean[], 8 byte[], 9 Tray[], 10 State[] -/
def kd (k : Nat) : Nat :=
  if k = 0 then 3
  else if k < 161 then
    if (k - 1) % 20 = 0 then 1
    else if (k - 1) % 20 < 6 then (if (k - 1) % 20 = 3 then 9 else 5)
    else if (k - 1) % 20 % 2 = 0 then 2 else 5
  else if k = 161 then 10
  else if k = 162 then 0
  else if k = 163 then 6
  else if k = 164 then 5
  else if k = 165 then 7
  else 99
def ln (k : Nat) : Nat :=
  if k < 161 then (if (k - 1) % 20 = 3 then 7 else 10)
  else if k = 161 then 6
  else if k = 163 then 80 else 10
def rf (k j : Nat) : Nat :=
  if k = 0 then (if j = 0 then 1 else if j = 1 then 21 else if j = 2 then 161 else 162)
  else if k < 161 then
    if (k - 1) % 20 = 0 then k + 1 + j
    else if (k - 1) % 20 = 3 then k + 3 + 2 * j else k + 1
  else if k = 161 then 41 + 20 * j
  else 163 + j
def kisR (c j : Nat) : Bool := match c with
  | 0 => j < 3
  | 1 => j < 5
  | 2 => j == 0
  | 3 => j < 4
  | _ => false
def knF (c : Nat) : Nat := match c with
  | 0 => 5
  | 1 => 14
  | 2 => 4
  | 3 => 6
  | _ => 0
def kin (i : Int32) (n : Nat) : Bool := decide (¬ i < 0) && decide (i.toNatClampNeg < n)
def kNL (v : Value) : Bool := match v with
  | .long _ => false
  | .double _ => false
  | _ => true
def knl (ls : List Value) (i : Nat) : Bool := match i with
  | 0 => true
  | i + 1 => kNL (ls.getD i .null)
def kcat (st : List Value) : Nat := (st.map fun v => v.category).sum
def kcpy (M : KMem) (a sp b dp n : Nat) : KMem := fun c => if c = b then va_cpy (M a) (M b) sp dp n else M c
def knar (ty : Nat) (x : Int32) : Int32 := match ty with
  | 6 => vp_nar .char x
  | 7 => vp_nar .boolean x
  | 8 => vp_nar .byte x
  | _ => x
def g_push (v : Int32) (nx : Nat) : KF := fun ls st M => some (nx, ls, .int v :: st, M)
def g_pushl (v : Int64) (nx : Nat) : KF := fun ls st M => some (nx, ls, .long v :: st, M)
def g_ild (i nx : Nat) : KF := fun ls st M => match ls[i]? with
  | some (.int x) => some (nx, ls, .int x :: st, M)
  | _ => none
def g_ald (i nx : Nat) : KF := fun ls st M => match ls[i]? with
  | some (.ref x) => some (nx, ls, .ref x :: st, M)
  | _ => none
def g_lld (i nx : Nat) : KF := fun ls st M => match ls[i]? with
  | some (.long x) => some (nx, ls, .long x :: st, M)
  | _ => none
def g_ist (i nx : Nat) : KF := fun ls st M => match st with
  | .int x :: r => if decide (i < ls.length) && knl ls i then some (nx, ls.set i (.int x), r, M) else none
  | _ => none
def g_ast (i nx : Nat) : KF := fun ls st M => match st with
  | .ref x :: r => if decide (i < ls.length) && knl ls i then some (nx, ls.set i (.ref x), r, M) else none
  | _ => none
def g_lst (i nx : Nat) : KF := fun ls st M => match st with
  | .long x :: r => if decide (i + 1 < ls.length) && knl ls i then some (nx, (ls.set i (.long x)).set (i + 1) .null, r, M) else none
  | _ => none
def g_iinc (i : Nat) (n : Int32) (nx : Nat) : KF := fun ls st M => match ls[i]? with
  | some (.int x) => if knl ls i then some (nx, ls.set i (.int (x + n)), st, M) else none
  | _ => none
def g_iop (f : Int32 → Int32 → Int32) (nx : Nat) : KF := fun ls st M => match st with
  | .int y :: .int x :: r => some (nx, ls, .int (f x y) :: r, M)
  | _ => none
def g_idiv (f : Int32 → Int32 → Int32) (nx : Nat) : KF := fun ls st M => match st with
  | .int y :: .int x :: r => if y = 0 then none else some (nx, ls, .int (f x y) :: r, M)
  | _ => none
def g_lop (f : Int64 → Int64 → Int64) (nx : Nat) : KF := fun ls st M => match st with
  | .long y :: .long x :: r => some (nx, ls, .long (f x y) :: r, M)
  | _ => none
def g_ldiv (nx : Nat) : KF := fun ls st M => match st with
  | .long y :: .long x :: r => if y = 0 then none else some (nx, ls, .long (x / y) :: r, M)
  | _ => none
def g_lcmp (nx : Nat) : KF := fun ls st M => match st with
  | .long y :: .long x :: r => some (nx, ls, .int (lg_cmp x y) :: r, M)
  | _ => none
def g_i2l (nx : Nat) : KF := fun ls st M => match st with
  | .int x :: r => some (nx, ls, .long x.toInt64 :: r, M)
  | _ => none
def g_l2i (nx : Nat) : KF := fun ls st M => match st with
  | .long x :: r => some (nx, ls, .int x.toInt32 :: r, M)
  | _ => none
def g_i2i (f : Int32 → Int32) (nx : Nat) : KF := fun ls st M => match st with
  | .int x :: r => some (nx, ls, .int (f x) :: r, M)
  | _ => none
def k_i2b (x : Int32) : Int32 := x.toInt8.toInt32
def k_i2c (x : Int32) : Int32 := (x.toUInt32 % 65536).toInt32
def k_irem (x y : Int32) : Int32 := x - x / y * y
def k_ishr (x y : Int32) : Int32 := x >>> (y &&& 31)
def g_dup (nx : Nat) : KF := fun ls st M => match st with
  | v :: r => if kNL v then some (nx, ls, v :: v :: r, M) else none
  | _ => none
def g_dup2 (nx : Nat) : KF := fun ls st M => match st with
  | v :: w :: r => if kNL v && kNL w then some (nx, ls, v :: w :: v :: w :: r, M) else none
  | _ => none
def g_pop (nx : Nat) : KF := fun ls st M => match st with
  | v :: r => if kNL v then some (nx, ls, r, M) else none
  | _ => none
def g_goto (nx : Nat) : KF := fun ls st M => some (nx, ls, st, M)
def g_br2 (b : Int32 → Int32 → Bool) (tgt nx : Nat) : KF := fun ls st M => match st with
  | .int y :: .int x :: r => some (if b x y then tgt else nx, ls, r, M)
  | _ => none
def g_br1 (b : Int32 → Bool) (tgt nx : Nat) : KF := fun ls st M => match st with
  | .int x :: r => some (if b x then tgt else nx, ls, r, M)
  | _ => none
def g_tsw (hi : Int) (tg : List Nat) (df : Nat) : KF := fun ls st M => match st with
  | .int x :: r => some (if x.toInt < 0 ∨ hi < x.toInt then df else tg.getD x.toInt.toNat df, ls, r, M)
  | _ => none
def g_lsw2 (a b : Int32) (ta tb df : Nat) : KF := fun ls st M => match st with
  | .int x :: r => some (if x = a then ta else if x = b then tb else df, ls, r, M)
  | _ => none
def g_gfi (c j nx : Nat) : KF := fun ls st M => match st with
  | .ref k :: r => if kd k = c then some (nx, ls, .int (M k j) :: r, M) else none
  | _ => none
def g_gfr (c j nx : Nat) : KF := fun ls st M => match st with
  | .ref k :: r => if kd k = c then some (nx, ls, .ref (rf k j) :: r, M) else none
  | _ => none
def g_pfi (c j nx : Nat) : KF := fun ls st M => match st with
  | .int v :: .ref k :: r => if kd k = c then some (nx, ls, r, mset M k j v) else none
  | _ => none
def g_pfz (c j nx : Nat) : KF := fun ls st M => match st with
  | .int v :: .ref k :: r => if kd k = c ∧ (v = 0 ∨ v = 1) then some (nx, ls, r, mset M k j v) else none
  | _ => none
def g_pald (ty nx : Nat) : KF := fun ls st M => match st with
  | .int i :: .ref k :: r => if kd k = ty ∧ kin i (ln k) = true then some (nx, ls, .int (M k i.toNatClampNeg) :: r, M) else none
  | _ => none
def g_past (ty nx : Nat) : KF := fun ls st M => match st with
  | .int x :: .int i :: .ref k :: r => if kd k = ty ∧ kin i (ln k) = true then some (nx, ls, r, mset M k i.toNatClampNeg (knar ty x)) else none
  | _ => none
def g_aald (ty nx : Nat) : KF := fun ls st M => match st with
  | .int i :: .ref k :: r => if kd k = ty ∧ kin i (ln k) = true then some (nx, ls, .ref (rf k i.toNatClampNeg) :: r, M) else none
  | _ => none
def g_alen (nx : Nat) : KF := fun ls st M => match st with
  | .ref k :: r => if kd k = 5 then some (nx, ls, .int (nI (ln k)) :: r, M) else none
  | _ => none
def g_imax (nx : Nat) : KF := fun ls st M => match st with
  | .int y :: .int x :: r => if kcat r ≤ 8 then some (nx, ls, .int (if x < y then y else x) :: r, M) else none
  | _ => none
def g_imin (nx : Nat) : KF := fun ls st M => match st with
  | .int y :: .int x :: r => if kcat r ≤ 8 then some (nx, ls, .int (if y < x then y else x) :: r, M) else none
  | _ => none
def g_lmax (nx : Nat) : KF := fun ls st M => match st with
  | .long y :: .long x :: r => if kcat r ≤ 8 then some (nx, ls, .long (if y < x then x else y) :: r, M) else none
  | _ => none
def g_acp (nx : Nat) : KF := fun ls st M => match st with
  | .int n :: .int dp :: .ref b :: .int sp :: .ref a :: r =>
    if kd a = 5 ∧ kd b = 5 ∧ ¬ sp < 0 ∧ ¬ dp < 0 ∧ ¬ n < 0 ∧ sp.toNatClampNeg + n.toNatClampNeg ≤ ln a ∧ dp.toNatClampNeg + n.toNatClampNeg ≤ ln b ∧ kcat r ≤ 8 then
      some (nx, ls, r, kcpy M a sp.toNatClampNeg b dp.toNatClampNeg n.toNatClampNeg) else none
  | _ => none
