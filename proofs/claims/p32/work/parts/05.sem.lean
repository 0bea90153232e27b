/-! the small machine's runs: by fuel; kE: the run from here ends, and its end has Q -/
def kent (m : Nat) (as : List Value) : List Value := as ++ List.replicate (kml m - as.length) .null
def krecv (m : Nat) (as : List Value) : Bool := match as with
  | .ref k :: _ => Nat.beq (kd k) (kcls m)
  | _ => false
def kcall (m : Nat) (as rest : List Value) : Bool := as.all kNL && decide (kcat rest ≤ 8) && (kstat m || krecv m as) && (decide (as.length ≤ kml m) && Nat.beq as.length (kna m))
def kst4 (ls st : List Value) (M : KMem) : Option (Option Value × KMem) := match ls, st with
  | .ref 166 :: .ref 0 :: .int a :: .int b :: _, [] => some (none, mset (mset M 200 0 a) 200 1 b)
  | _, _ => none
def kst5 (st : List Value) (M : KMem) : Option (Option Value × KMem) := match st with
  | [.int x] => if x = 1 then some (some (.int 1), M) else none
  | _ => none
/-- 4: the law's loop, one turn done (what it needs of its locals is noted at 200); 5: the law's end, with true -/
def kret (c : Nat) (ls st : List Value) (M : KMem) : Option (Option Value × KMem) := match c with
  | 0 => (match st with
    | [] => some (none, M)
    | _ => none)
  | 1 => (match st with
    | [.int v] => some (some (.int v), M)
    | _ => none)
  | 2 => (match st with
    | [.int v] => if v = 0 ∨ v = 1 then some (some (.int v), M) else none
    | _ => none)
  | 3 => (match st with
    | [.long v] => some (some (.long v), M)
    | _ => none)
  | 4 => kst4 ls st M
  | _ => kst5 st M
def krun : Nat → Nat → Nat → List Value → List Value → KMem → Option (Option Value × KMem)
  | 0, _, _, _, _, _ => none
  | f + 1, m, pc, ls, st, M => match kprog m pc with
    | none => none
    | some (.inl g) => (match g ls st M with
      | none => none
      | some c => krun f m c.1 c.2.1 c.2.2.1 c.2.2.2)
    | some (.inr (.inl y)) => if kcall y.1 (st.take y.2.1).reverse (st.drop y.2.1) = true then (match krun f y.1 0 (kent y.1 (st.take y.2.1).reverse) [] M with
        | none => none
        | some o => krun f m y.2.2 ls (o.1.toList ++ st.drop y.2.1) o.2) else none
    | some (.inr (.inr c)) => kret c ls st M
theorem krun_mono1 : ∀ (f m pc : Nat) (ls st : List Value) (M : KMem) (o : Option Value × KMem), krun f m pc ls st M = some o → krun (f + 1) m pc ls st M = some o := by
  intro f
  induction f with
  | zero => intro m pc ls st M o h; simp [krun] at h
  | succ f ih =>
    intro m pc ls st M o h
    rw [krun] at h ⊢
    cases hp : kprog m pc with
    | none => rw [hp] at h; simp at h
    | some op =>
      rw [hp] at h
      rcases op with g | y | c
      · dsimp only at h ⊢
        cases hg : g ls st M with
        | none => rw [hg] at h; simp at h
        | some cc =>
          rw [hg] at h
          dsimp only at h ⊢
          exact ih _ _ _ _ _ _ h
      · dsimp only at h ⊢
        by_cases hc : kcall y.1 (st.take y.2.1).reverse (st.drop y.2.1) = true
        · rw [if_pos hc] at h ⊢
          cases hr : krun f y.1 0 (kent y.1 (st.take y.2.1).reverse) [] M with
          | none => rw [hr] at h; simp at h
          | some o1 =>
            rw [hr] at h
            rw [ih _ _ _ _ _ _ hr]
            dsimp only at h ⊢
            exact ih _ _ _ _ _ _ h
        · rw [if_neg hc] at h
          cases h
      · exact h
theorem krun_mono {f f' m pc : Nat} {ls st : List Value} {M : KMem} {o : Option Value × KMem} (h : krun f m pc ls st M = some o) (hf : f ≤ f') : krun f' m pc ls st M = some o := by
  obtain ⟨d, rfl⟩ := Nat.le.dest hf
  induction d with
  | zero => exact h
  | succ d ih => exact krun_mono1 _ _ _ _ _ _ _ (ih (by omega))
def kE (m pc : Nat) (ls st : List Value) (M : KMem) (Q : Option Value → KMem → Prop) : Prop := ∃ (f : Nat) (o : Option Value × KMem), krun f m pc ls st M = some o ∧ Q o.1 o.2
theorem kE.mono {m pc : Nat} {ls st : List Value} {M : KMem} {Q Q' : Option Value → KMem → Prop} (h : kE m pc ls st M Q) (hq : ∀ r M', Q r M' → Q' r M') : kE m pc ls st M Q' := by
  obtain ⟨f, o, h1, h2⟩ := h
  exact ⟨f, o, h1, hq _ _ h2⟩
theorem kE_step {m pc : Nat} {g : KF} (h : kprog m pc = some (.inl g)) {ls st : List Value} {M : KMem} {Q : Option Value → KMem → Prop} {pc' : Nat} {ls' st' : List Value} {M' : KMem} (hg : g ls st M = some (pc', ls', st', M')) : kE m pc ls st M Q = kE m pc' ls' st' M' Q := by
  apply propext
  constructor
  · rintro ⟨f, o, h1, h2⟩
    cases f with
    | zero => simp [krun] at h1
    | succ f =>
      rw [krun, h] at h1
      dsimp only at h1
      rw [hg] at h1
      exact ⟨f, o, h1, h2⟩
  · rintro ⟨f, o, h1, h2⟩
    refine ⟨f + 1, o, ?_, h2⟩
    rw [krun, h]
    dsimp only
    rw [hg]
    exact h1
theorem kE_none {m pc : Nat} {g : KF} (h : kprog m pc = some (.inl g)) {ls st : List Value} {M : KMem} {Q : Option Value → KMem → Prop} (hg : g ls st M = none) : kE m pc ls st M Q = False := by
  apply propext
  constructor
  · rintro ⟨f, o, h1, h2⟩
    cases f with
    | zero => simp [krun] at h1
    | succ f =>
      rw [krun, h] at h1
      dsimp only at h1
      rw [hg] at h1
      cases h1
  · exact False.elim
theorem kE_if {m pc : Nat} {g : KF} (h : kprog m pc = some (.inl g)) {ls st : List Value} {M : KMem} {Q : Option Value → KMem → Prop} {pc' : Nat} {ls' st' : List Value} {M' : KMem} {P : Prop} [Decidable P] (hg : g ls st M = if P then some (pc', ls', st', M') else none) : kE m pc ls st M Q = (P ∧ kE m pc' ls' st' M' Q) := by
  by_cases hp : P
  · rw [if_pos hp] at hg
    rw [kE_step h hg]
    exact propext ⟨fun x => ⟨hp, x⟩, fun x => x.2⟩
  · rw [if_neg hp] at hg
    rw [kE_none h hg]
    exact propext ⟨False.elim, fun x => hp x.1⟩
theorem kE_unless {m pc : Nat} {g : KF} (h : kprog m pc = some (.inl g)) {ls st : List Value} {M : KMem} {Q : Option Value → KMem → Prop} {pc' : Nat} {ls' st' : List Value} {M' : KMem} {P : Prop} [Decidable P] (hg : g ls st M = if P then none else some (pc', ls', st', M')) : kE m pc ls st M Q = (¬ P ∧ kE m pc' ls' st' M' Q) := by
  by_cases hp : P
  · rw [if_pos hp] at hg
    rw [kE_none h hg]
    exact propext ⟨False.elim, fun x => x.1 hp⟩
  · rw [if_neg hp] at hg
    rw [kE_step h hg]
    exact propext ⟨fun x => ⟨hp, x⟩, fun x => x.2⟩
theorem kE_br {m pc : Nat} {g : KF} (h : kprog m pc = some (.inl g)) {ls st ls' st' : List Value} {M M' : KMem} {Q : Option Value → KMem → Prop} {a b : Nat} {P : Prop} [Decidable P] (hg : g ls st M = some (if P then a else b, ls', st', M')) : kE m pc ls st M Q = if P then kE m a ls' st' M' Q else kE m b ls' st' M' Q := by
  rw [kE_step h hg]
  by_cases hp : P
  · rw [if_pos hp]; simp only [if_pos hp]
  · rw [if_neg hp]; simp only [if_neg hp]
theorem kE_call {m pc m' n nx : Nat} (h : kprog m pc = some (.inr (.inl (m', n, nx)))) {ls st : List Value} {M : KMem} {Q : Option Value → KMem → Prop} (as rest : List Value) (hst : st = as.reverse ++ rest) (hn : as.length = n) :
    kE m pc ls st M Q = (kcall m' as rest = true ∧ kE m' 0 (kent m' as) [] M (fun r M' => kE m nx ls (r.toList ++ rest) M' Q)) := by
  have h1 : st.take n = as.reverse := by rw [hst, ← hn, ← List.length_reverse, List.take_left']; rfl
  have h2 : st.drop n = rest := by rw [hst, ← hn, ← List.length_reverse, List.drop_left']; rfl
  apply propext
  constructor
  · rintro ⟨f, o, e1, e2⟩
    cases f with
    | zero => simp [krun] at e1
    | succ f =>
      rw [krun, h] at e1
      dsimp only at e1
      rw [h1, h2, List.reverse_reverse] at e1
      by_cases hc : kcall m' as rest = true
      · rw [if_pos hc] at e1
        cases hr : krun f m' 0 (kent m' as) [] M with
        | none => rw [hr] at e1; simp at e1
        | some o1 =>
          rw [hr] at e1
          exact ⟨hc, f, o1, hr, f, o, e1, e2⟩
      · rw [if_neg hc] at e1
        cases e1
  · rintro ⟨hc, f1, o1, e1, f2, o, e2, e3⟩
    refine ⟨max f1 f2 + 1, o, ?_, e3⟩
    rw [krun, h]
    dsimp only
    rw [h1, h2, List.reverse_reverse, if_pos hc, krun_mono e1 (Nat.le_max_left f1 f2)]
    exact krun_mono e2 (Nat.le_max_right f1 f2)
theorem kE_ret {m pc c : Nat} (h : kprog m pc = some (.inr (.inr c))) {ls st : List Value} {M : KMem} {Q : Option Value → KMem → Prop} {o : Option Value × KMem} (hr : kret c ls st M = some o) : kE m pc ls st M Q = Q o.1 o.2 := by
  apply propext
  constructor
  · rintro ⟨f, o1, e1, e2⟩
    cases f with
    | zero => simp [krun] at e1
    | succ f =>
      rw [krun, h] at e1
      dsimp only at e1
      rw [hr] at e1
      cases e1
      exact e2
  · intro hq
    refine ⟨1, o, ?_, hq⟩
    rw [krun, h]
    exact hr
theorem kE_retz {m pc : Nat} (h : kprog m pc = some (.inr (.inr 2))) {ls : List Value} {v : Int32} {M : KMem} {Q : Option Value → KMem → Prop} : kE m pc ls [.int v] M Q = ((v = 0 ∨ v = 1) ∧ Q (some (.int v)) M) := by
  by_cases hv : v = 0 ∨ v = 1
  · rw [kE_ret (o := (some (.int v), M)) h (by show (if v = 0 ∨ v = 1 then some (some (Value.int v), M) else none) = _; rw [if_pos hv])]
    exact propext ⟨fun x => ⟨hv, x⟩, fun x => x.2⟩
  · apply propext
    constructor
    · rintro ⟨f, o1, e1, e2⟩
      cases f with
      | zero => simp [krun] at e1
      | succ f =>
        rw [krun, h] at e1
        dsimp only [kret] at e1
        rw [if_neg hv] at e1
        cases e1
    · exact fun x => absurd x.1 hv
theorem kcat_nil : kcat [] = 0 := rfl
theorem kcat_int (x : Int32) (r : List Value) : kcat (.int x :: r) = 1 + kcat r := by simp [kcat, Value.category]
theorem kcat_long (x : Int64) (r : List Value) : kcat (.long x :: r) = 2 + kcat r := by simp [kcat, Value.category]
theorem kcat_ref (x : Nat) (r : List Value) : kcat (.ref x :: r) = 1 + kcat r := by simp [kcat, Value.category]
theorem kNL_int (x : Int32) : kNL (.int x) = true := rfl
theorem kNL_ref (x : Nat) : kNL (.ref x) = true := rfl
theorem kNL_null : kNL .null = true := rfl
theorem kcallS {m : Nat} {as rest : List Value} (hs : kstat m = true) (hn : as.all kNL = true) (hl : (decide (as.length ≤ kml m) && Nat.beq as.length (kna m)) = true) : (kcall m as rest = true) = (kcat rest ≤ 8) := by
  unfold kcall
  rw [hs, hn, hl]
  simp
theorem kcallV {m c k : Nat} {as rest : List Value} (hs : kstat m = false) (hc : kcls m = c) (hn : (Value.ref k :: as).all kNL = true) (hl : (decide ((Value.ref k :: as).length ≤ kml m) && Nat.beq (Value.ref k :: as).length (kna m)) = true) : (kcall m (.ref k :: as) rest = true) = (kcat rest ≤ 8 ∧ kd k = c) := by
  unfold kcall krecv
  rw [hs, hn, hl, hc]
  simp
theorem kE_tsw {m pc df : Nat} {hi : Int} {tg : List Nat} (h : kprog m pc = some (.inl (g_tsw hi tg df))) {ls st : List Value} {x : Int32} {M : KMem} {Q : Option Value → KMem → Prop} : kE m pc ls (.int x :: st) M Q = kE m (if x.toInt < 0 ∨ hi < x.toInt then df else tg.getD x.toInt.toNat df) ls st M Q := kE_step h rfl
theorem k_neI {x k : Int32} {a : Int} (h : ¬ x = k) (hk : k.toInt = a) : ¬ x.toInt = a := fun q => h (Int32.toInt_inj.mp (by rw [hk]; exact q))
theorem kE_lsw2 {m pc ta tb df : Nat} {a b : Int32} (h : kprog m pc = some (.inl (g_lsw2 a b ta tb df))) {ls st : List Value} {x : Int32} {M : KMem} {Q : Option Value → KMem → Prop} : kE m pc ls (.int x :: st) M Q = if x = a then kE m ta ls st M Q else if x = b then kE m tb ls st M Q else kE m df ls st M Q := by
  rw [kE_step (pc' := if x = a then ta else if x = b then tb else df) (ls' := ls) (st' := st) (M' := M) h rfl]
  by_cases h1 : x = a
  · simp only [if_pos h1]
  · by_cases h2 : x = b
    · simp only [if_neg h1, if_pos h2]
    · simp only [if_neg h1, if_neg h2]
theorem kE_tsw5 {m pc df t0 t1 t2 t3 t4 : Nat} (h : kprog m pc = some (.inl (g_tsw 4 [t0, t1, t2, t3, t4] df))) {ls st : List Value} {x : Int32} {M : KMem} {Q : Option Value → KMem → Prop} : kE m pc ls (.int x :: st) M Q = (if x = 0 then kE m t0 ls st M Q else if x = 1 then kE m t1 ls st M Q else if x = 2 then kE m t2 ls st M Q else if x = 3 then kE m t3 ls st M Q else if x = 4 then kE m t4 ls st M Q else kE m df ls st M Q) := by
  rw [kE_tsw h]
  by_cases h0 : x = 0
  · subst h0; rfl
  rw [if_neg h0]
  by_cases h1 : x = 1
  · subst h1; rfl
  rw [if_neg h1]
  by_cases h2 : x = 2
  · subst h2; rfl
  rw [if_neg h2]
  by_cases h3 : x = 3
  · subst h3; rfl
  rw [if_neg h3]
  by_cases h4 : x = 4
  · subst h4; rfl
  rw [if_neg h4]
  have q : x.toInt < 0 ∨ (4 : Int) < x.toInt := by
    have a0 := k_neI h0 (show (0 : Int32).toInt = 0 from rfl)
    have a1 := k_neI h1 (show (1 : Int32).toInt = 1 from rfl)
    have a2 := k_neI h2 (show (2 : Int32).toInt = 2 from rfl)
    have a3 := k_neI h3 (show (3 : Int32).toInt = 3 from rfl)
    have a4 := k_neI h4 (show (4 : Int32).toInt = 4 from rfl)
    omega
  rw [if_pos q]
theorem kE_tsw10 {m pc df t0 t1 t2 t3 t4 t5 t6 t7 t8 t9 : Nat} (h : kprog m pc = some (.inl (g_tsw 9 [t0, t1, t2, t3, t4, t5, t6, t7, t8, t9] df))) {ls st : List Value} {x : Int32} {M : KMem} {Q : Option Value → KMem → Prop} : kE m pc ls (.int x :: st) M Q = (if x = 0 then kE m t0 ls st M Q else if x = 1 then kE m t1 ls st M Q else if x = 2 then kE m t2 ls st M Q else if x = 3 then kE m t3 ls st M Q else if x = 4 then kE m t4 ls st M Q else if x = 5 then kE m t5 ls st M Q else if x = 6 then kE m t6 ls st M Q else if x = 7 then kE m t7 ls st M Q else if x = 8 then kE m t8 ls st M Q else if x = 9 then kE m t9 ls st M Q else kE m df ls st M Q) := by
  rw [kE_tsw h]
  by_cases h0 : x = 0
  · subst h0; rfl
  rw [if_neg h0]
  by_cases h1 : x = 1
  · subst h1; rfl
  rw [if_neg h1]
  by_cases h2 : x = 2
  · subst h2; rfl
  rw [if_neg h2]
  by_cases h3 : x = 3
  · subst h3; rfl
  rw [if_neg h3]
  by_cases h4 : x = 4
  · subst h4; rfl
  rw [if_neg h4]
  by_cases h5 : x = 5
  · subst h5; rfl
  rw [if_neg h5]
  by_cases h6 : x = 6
  · subst h6; rfl
  rw [if_neg h6]
  by_cases h7 : x = 7
  · subst h7; rfl
  rw [if_neg h7]
  by_cases h8 : x = 8
  · subst h8; rfl
  rw [if_neg h8]
  by_cases h9 : x = 9
  · subst h9; rfl
  rw [if_neg h9]
  have q : x.toInt < 0 ∨ (9 : Int) < x.toInt := by
    have a0 := k_neI h0 (show (0 : Int32).toInt = 0 from rfl)
    have a1 := k_neI h1 (show (1 : Int32).toInt = 1 from rfl)
    have a2 := k_neI h2 (show (2 : Int32).toInt = 2 from rfl)
    have a3 := k_neI h3 (show (3 : Int32).toInt = 3 from rfl)
    have a4 := k_neI h4 (show (4 : Int32).toInt = 4 from rfl)
    have a5 := k_neI h5 (show (5 : Int32).toInt = 5 from rfl)
    have a6 := k_neI h6 (show (6 : Int32).toInt = 6 from rfl)
    have a7 := k_neI h7 (show (7 : Int32).toInt = 7 from rfl)
    have a8 := k_neI h8 (show (8 : Int32).toInt = 8 from rfl)
    have a9 := k_neI h9 (show (9 : Int32).toInt = 9 from rfl)
    omega
  rw [if_pos q]
theorem kE_tsw12 {m pc df t0 t1 t2 t3 t4 t5 t6 t7 t8 t9 t10 t11 : Nat} (h : kprog m pc = some (.inl (g_tsw 11 [t0, t1, t2, t3, t4, t5, t6, t7, t8, t9, t10, t11] df))) {ls st : List Value} {x : Int32} {M : KMem} {Q : Option Value → KMem → Prop} : kE m pc ls (.int x :: st) M Q = (if x = 0 then kE m t0 ls st M Q else if x = 1 then kE m t1 ls st M Q else if x = 2 then kE m t2 ls st M Q else if x = 3 then kE m t3 ls st M Q else if x = 4 then kE m t4 ls st M Q else if x = 5 then kE m t5 ls st M Q else if x = 6 then kE m t6 ls st M Q else if x = 7 then kE m t7 ls st M Q else if x = 8 then kE m t8 ls st M Q else if x = 9 then kE m t9 ls st M Q else if x = 10 then kE m t10 ls st M Q else if x = 11 then kE m t11 ls st M Q else kE m df ls st M Q) := by
  rw [kE_tsw h]
  by_cases h0 : x = 0
  · subst h0; rfl
  rw [if_neg h0]
  by_cases h1 : x = 1
  · subst h1; rfl
  rw [if_neg h1]
  by_cases h2 : x = 2
  · subst h2; rfl
  rw [if_neg h2]
  by_cases h3 : x = 3
  · subst h3; rfl
  rw [if_neg h3]
  by_cases h4 : x = 4
  · subst h4; rfl
  rw [if_neg h4]
  by_cases h5 : x = 5
  · subst h5; rfl
  rw [if_neg h5]
  by_cases h6 : x = 6
  · subst h6; rfl
  rw [if_neg h6]
  by_cases h7 : x = 7
  · subst h7; rfl
  rw [if_neg h7]
  by_cases h8 : x = 8
  · subst h8; rfl
  rw [if_neg h8]
  by_cases h9 : x = 9
  · subst h9; rfl
  rw [if_neg h9]
  by_cases h10 : x = 10
  · subst h10; rfl
  rw [if_neg h10]
  by_cases h11 : x = 11
  · subst h11; rfl
  rw [if_neg h11]
  have q : x.toInt < 0 ∨ (11 : Int) < x.toInt := by
    have a0 := k_neI h0 (show (0 : Int32).toInt = 0 from rfl)
    have a1 := k_neI h1 (show (1 : Int32).toInt = 1 from rfl)
    have a2 := k_neI h2 (show (2 : Int32).toInt = 2 from rfl)
    have a3 := k_neI h3 (show (3 : Int32).toInt = 3 from rfl)
    have a4 := k_neI h4 (show (4 : Int32).toInt = 4 from rfl)
    have a5 := k_neI h5 (show (5 : Int32).toInt = 5 from rfl)
    have a6 := k_neI h6 (show (6 : Int32).toInt = 6 from rfl)
    have a7 := k_neI h7 (show (7 : Int32).toInt = 7 from rfl)
    have a8 := k_neI h8 (show (8 : Int32).toInt = 8 from rfl)
    have a9 := k_neI h9 (show (9 : Int32).toInt = 9 from rfl)
    have a10 := k_neI h10 (show (10 : Int32).toInt = 10 from rfl)
    have a11 := k_neI h11 (show (11 : Int32).toInt = 11 from rfl)
    omega
  rw [if_pos q]
theorem kE_ist {m pc i nx : Nat} (h : kprog m pc = some (.inl (g_ist i nx))) {ls st : List Value} {x : Int32} {M : KMem} {Q : Option Value → KMem → Prop} (hi : i < ls.length) : kE m pc ls (.int x :: st) M Q = (knl ls i = true ∧ kE m nx (ls.set i (.int x)) st M Q) :=
  kE_if h (by show (if (decide (i < ls.length) && knl ls i) = true then _ else _) = _; rw [decide_eq_true hi, Bool.true_and])
theorem kE_ast {m pc i nx : Nat} (h : kprog m pc = some (.inl (g_ast i nx))) {ls st : List Value} {x : Nat} {M : KMem} {Q : Option Value → KMem → Prop} (hi : i < ls.length) : kE m pc ls (.ref x :: st) M Q = (knl ls i = true ∧ kE m nx (ls.set i (.ref x)) st M Q) :=
  kE_if h (by show (if (decide (i < ls.length) && knl ls i) = true then _ else _) = _; rw [decide_eq_true hi, Bool.true_and])
theorem kE_lst {m pc i nx : Nat} (h : kprog m pc = some (.inl (g_lst i nx))) {ls st : List Value} {x : Int64} {M : KMem} {Q : Option Value → KMem → Prop} (hi : i + 1 < ls.length) : kE m pc ls (.long x :: st) M Q = (knl ls i = true ∧ kE m nx ((ls.set i (.long x)).set (i + 1) .null) st M Q) :=
  kE_if h (by show (if (decide (i + 1 < ls.length) && knl ls i) = true then _ else _) = _; rw [decide_eq_true hi, Bool.true_and])
theorem kE_stop {m pc : Nat} (h : kprog m pc = some (.inr (.inr 4))) {a b : Int32} {ls : List Value} {M : KMem} {Q : Option Value → KMem → Prop} : kE m pc (.ref 166 :: .ref 0 :: .int a :: .int b :: ls) [] M Q = Q none (mset (mset M 200 0 a) 200 1 b) :=
  kE_ret (o := (none, _)) h rfl
theorem kE_fin {m pc : Nat} (h : kprog m pc = some (.inr (.inr 5))) {ls : List Value} {M : KMem} {Q : Option Value → KMem → Prop} : kE m pc ls [.int 1] M Q = Q (some (.int 1)) M :=
  kE_ret (o := (some (.int 1), M)) h rfl
