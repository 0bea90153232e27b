/-! rows of Nats: what the state is -/
abbrev NR : Type := Nat → Nat
def nr (p : NR) : Row := fun i => nI (p i)
def nu (p : NR) (i v : Nat) : NR := fun j => if j = i then v else p j
theorem nu_eq (p : NR) (i v : Nat) : nu p i v i = v := if_pos rfl
theorem nu_ne {p : NR} {i v j : Nat} (h : j ≠ i) : nu p i v j = p j := if_neg h
theorem nr_upd (p : NR) (i v : Nat) : upd (nr p) i (nI v) = nr (nu p i v) := by
  funext j
  unfold upd nr nu
  split <;> rfl
theorem nu_comm {p : NR} {i j v w : Nat} (h : i ≠ j) : nu (nu p i v) j w = nu (nu p j w) i v := by
  funext k
  unfold nu
  by_cases h1 : k = j
  · subst h1
    rw [if_pos rfl, if_neg (fun q => h q.symm), if_pos rfl]
  · by_cases h2 : k = i
    · subst h2
      rw [if_neg h1, if_pos rfl, if_pos rfl]
    · rw [if_neg h1, if_neg h2, if_neg h2, if_neg h1]
theorem nu_nu (p : NR) (i v w : Nat) : nu (nu p i v) i w = nu p i w := by
  funext k
  unfold nu
  split <;> rfl
theorem nu_self (p : NR) (i : Nat) : nu p i (p i) = p := by
  funext k
  unfold nu
  split
  · rename_i h; rw [h]
  · rfl
def nsum (f : Nat → Nat) : Nat → Nat
  | 0 => 0
  | n + 1 => nsum f n + f n
theorem nsum_congr {f g : Nat → Nat} {n : Nat} (h : ∀ k, k < n → f k = g k) : nsum f n = nsum g n := by
  induction n with
  | zero => rfl
  | succ n ih => rw [nsum, nsum, ih (fun k hk => h k (by omega)), h n (by omega)]
theorem nsum_upd {f : Nat → Nat} {i v n : Nat} (h : i < n) : nsum (fun k => if k = i then v else f k) n + f i = nsum f n + v := by
  induction n with
  | zero => omega
  | succ n ih =>
    rw [nsum, nsum]
    by_cases hi : i = n
    · subst hi
      rw [if_pos rfl, nsum_congr (g := f) (fun k hk => if_neg (by omega))]
      omega
    · rw [if_neg (fun q => hi q.symm)]
      have := ih (by omega)
      omega
theorem nsum_ge {f : Nat → Nat} {i n : Nat} (h : i < n) : f i ≤ nsum f n := by
  induction n with
  | zero => omega
  | succ n ih =>
    rw [nsum]
    by_cases hi : i = n
    · subst hi; omega
    · have := ih (by omega)
      omega
theorem nsum_split (f : Nat → Nat) (a b : Nat) : nsum f (a + b) = nsum f a + nsum (fun k => f (a + k)) b := by
  induction b with
  | zero => rfl
  | succ b ih => rw [← Nat.add_assoc, nsum, ih, nsum]; omega
theorem nsum_le {f : Nat → Nat} {n c : Nat} (h : ∀ k, k < n → f k ≤ c) : nsum f n ≤ n * c := by
  induction n with
  | zero => simp [nsum]
  | succ n ih =>
    rw [nsum, Nat.succ_mul]
    have := ih (fun k hk => h k (by omega))
    have := h n (by omega)
    omega
theorem nsum_mono {f g : Nat → Nat} {n : Nat} (h : ∀ k, k < n → f k ≤ g k) : nsum f n ≤ nsum g n := by
  induction n with
  | zero => exact Nat.le_refl _
  | succ n ih =>
    rw [nsum, nsum]
    have := ih (fun k hk => h k (by omega))
    have := h n (by omega)
    omega
theorem nsum_le_n {f : Nat → Nat} {a b : Nat} (h : a ≤ b) : nsum f a ≤ nsum f b := by
  obtain ⟨c, rfl⟩ := Nat.le.dest h
  rw [nsum_split]; omega
theorem nsum_zero {f : Nat → Nat} {n : Nat} (h : ∀ k, k < n → f k = 0) : nsum f n = 0 := by
  have := nsum_le (f := f) (n := n) (c := 0) (fun k hk => by rw [h k hk]; exact Nat.le_refl _)
  omega
theorem ksum_nI (f : Nat → Nat) (n : Nat) : ksum (fun k => nI (f k)) n = nI (nsum f n) := by
  induction n with
  | zero => rfl
  | succ n ih => rw [ksum, nsum, ih, nI_add]
theorem ksum_congr {f g : Nat → Int32} {n : Nat} (h : ∀ k, k < n → f k = g k) : ksum f n = ksum g n := by
  induction n with
  | zero => rfl
  | succ n ih => rw [ksum, ksum, ih (fun k hk => h k (by omega)), h n (by omega)]
/-! the parts of a minute -/
def sumN (p : NR) (f : Nat) : Nat := nsum (fun k => p (f + k)) 10
def openN (p : NR) (t : Nat) : Nat := max 100 (1000 - p (53 + 12 * t + 10) * 1000 / p 20)
def easeN (d : Nat) : Nat := if d = 1 then 300 else if d = 2 then 600 else 900
def fallN (m op d : Nat) : Nat := if m = 0 then 0 else max 1 (m * op * easeN d / 1000000)
def dropN (p : NR) (its A op : Nat) : Nat → NR
  | 0 => p
  | k + 1 => nu (nu (dropN p its A op k) (its + k) (dropN p its A op k (its + k) - fallN (dropN p its A op k (its + k)) op (A - k))) (its + 12 + k) (dropN p its A op k (its + 12 + k) + fallN (dropN p its A op k (its + k)) op (A - k))
def dropV (p : NR) (its A op : Nat) : Nat → Nat
  | 0 => 0
  | k + 1 => dropV p its A op k + fallN (dropN p its A op k (its + k)) op (A - k)
def blindN (p : NR) (its A : Nat) : NR := nu (nu p (its + A) (p (its + A) - p (its + A) * p 21 / 1000)) (its + 10) (p (its + 10) + p (its + A) * p 21 / 1000)
def trN (p : NR) (t : Nat) : NR := blindN (dropN p (53 + 12 * t) (p (25 + t)) (openN p t) (p (25 + t))) (53 + 12 * t) (p (25 + t))
def trV (p : NR) (t : Nat) : Nat := dropV p (53 + 12 * t) (p (25 + t)) (openN p t) (p (25 + t))
def shN (p : NR) (n : Nat) : Nat → NR
  | 0 => p
  | j + 1 => trN (shN p n j) (n - 1 - j)
def shV (p : NR) (n : Nat) : Nat → Nat
  | 0 => 0
  | j + 1 => shV p n j + trV (shN p n j) (n - 1 - j)
def panN (q : NR) (n : Nat) : NR := nu q (53 + 12 * n) (q (53 + 12 * n) - q (53 + 12 * n) * q 22 / 1000)
def minV (p : NR) : Nat := shV p (p 24) (p 24)
def minN (p : NR) : NR := nu (nu (panN (shN p (p 24) (p 24)) (p 24)) 51 (shN p (p 24) (p 24) 51 + 1)) 52 (minV p)
def totN (p : NR) : Nat := nsum (fun k => p (53 + k)) 84
/-- what holds of every state, after at most N calls -/
def Inv (p : NR) (N : Nat) : Prop :=
  (∀ k, k < 10 → p k ≤ 9999) ∧ (∀ k, k < 10 → p (10 + k) ≤ 9999 * N) ∧ (1 ≤ p 20 ∧ p 20 ≤ 9999) ∧ p 21 ≤ 200 ∧ p 22 ≤ 100 ∧ p 23 ≤ 100 ∧ p 24 ≤ 6 ∧
  (∀ t, t < p 24 → 1 ≤ p (25 + t)) ∧ (∀ t, t < 6 → p (25 + t) ≤ 9) ∧ (∀ i, 31 ≤ i → i < 49 → p i ≤ 1000) ∧ p 49 ≤ 1 ∧ p 50 ≤ 99990 ∧ p 51 ≤ 200 * N ∧ p 52 ≤ 1000000 ∧ totN p ≤ p 50 ∧
  (∀ t, t < 7 → p 24 ≤ t → p (53 + 12 * t + 10) = 0)
/-- what a minute needs and keeps: T bounds the mass -/
def MInv (p : NR) (T : Nat) : Prop :=
  (1 ≤ p 20 ∧ p 20 ≤ 9999) ∧ p 21 ≤ 200 ∧ p 22 ≤ 100 ∧ p 24 ≤ 6 ∧ (∀ t, t < p 24 → 1 ≤ p (25 + t)) ∧ (∀ t, t < 6 → p (25 + t) ≤ 9) ∧ T ≤ 99990 ∧ totN p ≤ T
theorem Inv.m {p : NR} {N : Nat} (h : Inv p N) : MInv p (p 50) := ⟨h.2.2.1, h.2.2.2.1, h.2.2.2.2.1, h.2.2.2.2.2.2.1, h.2.2.2.2.2.2.2.1, h.2.2.2.2.2.2.2.2.1, h.2.2.2.2.2.2.2.2.2.2.2.1, h.2.2.2.2.2.2.2.2.2.2.2.2.2.2.1⟩
theorem tot_nu {p : NR} {i v : Nat} (h1 : 53 ≤ i) (h2 : i < 137) : totN (nu p i v) + p i = totN p + v := by
  unfold totN
  have := nsum_upd (f := fun k => p (53 + k)) (i := i - 53) (v := v) (n := 84) (by omega)
  rw [show (53 + (i - 53)) = i from by omega] at this
  have e : nsum (fun k => nu p i v (53 + k)) 84 = nsum (fun k => if k = i - 53 then v else p (53 + k)) 84 := nsum_congr (fun k hk => by
    show nu p i v (53 + k) = _
    unfold nu
    by_cases hki : k = i - 53
    · rw [if_pos (by omega), if_pos hki]
    · rw [if_neg (by omega), if_neg hki])
  rw [e]
  exact this
theorem tot_nu_out {p : NR} {i v : Nat} (h : i < 53 ∨ 137 ≤ i) : totN (nu p i v) = totN p := nsum_congr (fun k hk => nu_ne (by omega))
theorem tot_ge {p : NR} {i : Nat} (h1 : 53 ≤ i) (h2 : i < 137) : p i ≤ totN p := by
  have := nsum_ge (f := fun k => p (53 + k)) (i := i - 53) (n := 84) (by omega)
  rwa [show (53 + (i - 53)) = i from by omega] at this
theorem ease_le (d : Nat) : easeN d ≤ 900 := by
  unfold easeN
  by_cases h1 : d = 1
  · rw [if_pos h1]; decide
  · by_cases h2 : d = 2
    · rw [if_neg h1, if_pos h2]; decide
    · rw [if_neg h1, if_neg h2]; exact Nat.le_refl _
theorem fall_le {m op d : Nat} (hop : op ≤ 1000) : fallN m op d ≤ m := by
  unfold fallN
  split
  · omega
  · have h1 : m * op * easeN d ≤ m * 1000 * 900 := Nat.mul_le_mul (Nat.mul_le_mul_left _ hop) (ease_le d)
    have h2 : m * op * easeN d / 1000000 ≤ m := by
      apply Nat.div_le_of_le_mul
      omega
    omega
theorem open_le {p : NR} {t : Nat} : openN p t ≤ 1000 := by
  unfold openN
  generalize p (53 + 12 * t + 10) * 1000 / p 20 = z
  omega
/-- a minute's moves leave all below 53 -/
theorem drop_low {p : NR} {its A op : Nat} {i : Nat} (h : i < its) : ∀ k, dropN p its A op k i = p i := by
  intro k
  induction k with
  | zero => rfl
  | succ k ih => rw [dropN, nu_ne (by omega), nu_ne (by omega), ih]
theorem blind_low {p : NR} {its A i : Nat} (h : i < its) : blindN p its A i = p i := by
  unfold blindN
  rw [nu_ne (by omega), nu_ne (by omega)]
theorem tr_low {p : NR} {t i : Nat} (h : i < 53) : trN p t i = p i := by
  unfold trN
  rw [blind_low (by omega), drop_low (by omega)]
theorem sh_low {p : NR} {n i : Nat} (h : i < 53) : ∀ j, shN p n j i = p i := by
  intro j
  induction j with
  | zero => rfl
  | succ j ih => rw [shN, tr_low h, ih]
theorem drop_tot {p : NR} {its A op : Nat} (hop : op ≤ 1000) (h1 : 53 ≤ its) (h2 : its + 24 ≤ 137) : ∀ k, k ≤ 10 → totN (dropN p its A op k) = totN p := by
  intro k
  induction k with
  | zero => intro _; rfl
  | succ k ih =>
    intro hk
    rw [dropN]
    have e := ih (by omega)
    generalize dropN p its A op k = q at e
    have hf := fall_le (m := q (its + k)) (d := A - k) hop
    have t1 := tot_nu (p := q) (i := its + k) (v := q (its + k) - fallN (q (its + k)) op (A - k)) (by omega) (by omega)
    have t2 := tot_nu (p := nu q (its + k) (q (its + k) - fallN (q (its + k)) op (A - k))) (i := its + 12 + k) (v := q (its + 12 + k) + fallN (q (its + k)) op (A - k)) (by omega) (by omega)
    rw [nu_ne (by omega)] at t2
    omega
theorem mul_div_le {m a : Nat} (h : a ≤ 1000) : m * a / 1000 ≤ m := by
  apply Nat.div_le_of_le_mul
  have := Nat.mul_le_mul_left m h
  omega
theorem blind_tot {p : NR} {its A : Nat} (hB : p 21 ≤ 200) (hA : A < 10) (h1 : 53 ≤ its) (h2 : its + 12 ≤ 137) : totN (blindN p its A) = totN p := by
  unfold blindN
  have hf : p (its + A) * p 21 / 1000 ≤ p (its + A) := mul_div_le (by omega)
  generalize p (its + A) * p 21 / 1000 = c at hf
  have t1 := tot_nu (p := p) (i := its + A) (v := p (its + A) - c) (by omega) (by omega)
  have t2 := tot_nu (p := nu p (its + A) (p (its + A) - c)) (i := its + 10) (v := p (its + 10) + c) (by omega) (by omega)
  rw [nu_ne (by omega)] at t2
  omega
theorem tr_tot {p : NR} {t : Nat} (hB : p 21 ≤ 200) (hA : p (25 + t) ≤ 9) (ht : t < 6) : totN (trN p t) = totN p := by
  unfold trN
  rw [blind_tot (by rw [drop_low (by omega)]; exact hB) (by omega) (by omega) (by omega), drop_tot open_le (by omega) (by omega) _ (by omega)]
theorem tr_MInv {p : NR} {t T : Nat} (h : MInv p T) (ht : t < 6) : MInv (trN p t) T := by
  obtain ⟨h1, h2, h3, h4, h5, h6, h7, h8⟩ := h
  refine ⟨by rw [tr_low (by omega)]; exact h1, by rw [tr_low (by omega)]; exact h2, by rw [tr_low (by omega)]; exact h3, by rw [tr_low (by omega)]; exact h4, fun s hs => ?_, fun s hs => by rw [tr_low (by omega)]; exact h6 s hs, h7, by rw [tr_tot h2 (h6 t ht) ht]; exact h8⟩
  rw [tr_low (by omega)] at hs
  rw [tr_low (by omega)]
  exact h5 s hs
theorem sh_MInv {p : NR} {n T : Nat} (h : MInv p T) (hn : n ≤ 6) : ∀ j, j ≤ n → MInv (shN p n j) T := by
  intro j
  induction j with
  | zero => intro _; exact h
  | succ j ih => intro hj; exact tr_MInv (ih (by omega)) (by omega)
/-- what falls is no more than what lies there -/
theorem dropV_le {p : NR} {its A op : Nat} (hop : op ≤ 1000) (h1 : 53 ≤ its) (h2 : its + 24 ≤ 137) : ∀ k, k ≤ 10 → dropV p its A op k ≤ k * totN p := by
  intro k
  induction k with
  | zero => intro _; simp [dropV]
  | succ k ih =>
    intro hk
    rw [dropV, Nat.succ_mul]
    have e := ih (by omega)
    have hf := fall_le (m := dropN p its A op k (its + k)) (d := A - k) hop
    have hg := tot_ge (p := dropN p its A op k) (i := its + k) (by omega) (by omega)
    rw [drop_tot hop h1 h2 k (by omega)] at hg
    omega
/-- a row of numbers is a row of the state -/
theorem nI_max {a b : Nat} (ha : a < 2 ^ 31) (hb : b < 2 ^ 31) : (if nI a < nI b then nI b else nI a) = nI (max a b) := by
  simp only [nI_lt_iff ha hb]
  split
  · rw [Nat.max_eq_right (by omega)]
  · rw [Nat.max_eq_left (by omega)]
theorem xopen_nI {s c : Nat} (hs : s ≤ 99990) (hc : 1 ≤ c) (hc2 : c ≤ 9999) : xopen (nI s) (nI c) = nI (max 100 (1000 - s * 1000 / c)) := by
  unfold xopen
  have h0 : ¬ nI c ≤ 0 := by rw [show (0 : Int32) = nI 0 from rfl, nI_le_iff (by omega) (by decide)]; omega
  rw [if_neg h0, show (1000 : Int32) = nI 1000 from rfl, show (100 : Int32) = nI 100 from rfl, pk_mul, pk_div (by omega) (by omega) (by omega)]
  have hd : s * 1000 / c ≤ s * 1000 := Nat.div_le_self _ _
  generalize s * 1000 / c = d at hd
  have e := pk_sub_toInt (a := 1000) (b := d) (by decide) (by omega)
  by_cases h : d ≤ 900
  · rw [pk_sub (by omega)]
    rw [nI_max (by decide) (by omega)]
  · rw [if_neg (by rw [Int32.lt_iff_toInt_lt, e, nI_toInt (by decide)]; omega), Nat.max_eq_left (by omega)]
theorem nI_eq_iff {a b : Nat} (ha : a < 2 ^ 31) (hb : b < 2 ^ 31) : nI a = nI b ↔ a = b := by
  constructor
  · intro q
    have := congrArg Int32.toInt q
    rw [nI_toInt ha, nI_toInt hb] at this
    omega
  · intro q; rw [q]
theorem kease_nI {d : Nat} (h : d < 2 ^ 31) : kease (nI d) = nI (easeN d) := by
  unfold kease easeN
  have h1 : (nI d = 1) ↔ d = 1 := nI_eq_iff (b := 1) h (by decide)
  have h2 : (nI d = 2) ↔ d = 2 := nI_eq_iff (b := 2) h (by decide)
  simp only [h1, h2]
  split
  · rfl
  · split <;> rfl
theorem prod_le {m op d : Nat} (hm : m < 2 ^ 31) (hop : op ≤ 1000) : m * op * easeN d ≤ 2147483648 * 1000 * 900 := Nat.mul_le_mul (Nat.mul_le_mul (by omega) hop) (ease_le d)
theorem xfall_nI {m op d : Nat} (hm : m < 2 ^ 31) (hop : op ≤ 1000) (hd : d < 2 ^ 31) : xfall (nI m) (nI op) (kease (nI d)) = nI (fallN m op d) := by
  unfold xfall fallN
  have hp := prod_le (d := d) hm hop
  have he := ease_le d
  rw [kease_nI hd, nI_l hm, nI_l (show op < 2 ^ 31 by omega), nI_l (show easeN d < 2 ^ 31 by omega), lN_mul, lN_mul, show (1000000 : Int64) = lN 1000000 from rfl, pk_lDiv (by omega) (by decide) (by decide), show (0 : Int32) = nI 0 from rfl, show (1 : Int64) = lN 1 from rfl]
  have hq : m * op * easeN d / 1000000 ≤ m * op * easeN d := Nat.div_le_self _ _
  generalize m * op * easeN d / 1000000 = q at hq
  simp only [nI_eq_iff hm (show 0 < 2 ^ 31 by decide), pk_lLT (show q < 2 ^ 63 by omega) (show 1 < 2 ^ 63 by decide)]
  split
  · rfl
  · split
    · rw [lN_i, Nat.max_eq_left (by omega)]
    · rw [lN_i, Nat.max_eq_right (by omega)]
