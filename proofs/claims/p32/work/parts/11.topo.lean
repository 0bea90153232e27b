/-! the layout of a State at o -/
def isSt (o : Nat) : Prop := ∃ i, i < 8 ∧ o = 1 + 20 * i
theorem st1 : isSt 1 := ⟨0, by decide, rfl⟩
theorem st21 : isSt 21 := ⟨1, by decide, rfl⟩
theorem stS {i : Nat} (h : i < 6) : isSt (41 + 20 * i) := ⟨i + 2, by omega, by omega⟩
theorem isSt.lt {o : Nat} (h : isSt o) : 1 ≤ o ∧ o + 20 ≤ 161 := by obtain ⟨i, h1, h2⟩ := h; omega
theorem st_apart {o o' : Nat} (h : isSt o) (h' : isSt o') (hne : o ≠ o') : o + 20 ≤ o' ∨ o' + 20 ≤ o := by
  obtain ⟨i, h1, h2⟩ := h
  obtain ⟨j, h3, h4⟩ := h'
  omega
theorem kd_in {o d : Nat} (h : isSt o) (hd : d < 20) : kd (o + d) = if d = 0 then 1 else if d < 6 then (if d = 3 then 9 else 5) else if d % 2 = 0 then 2 else 5 := by
  obtain ⟨i, h1, rfl⟩ := h
  have e : (1 + 20 * i + d - 1) % 20 = d := by omega
  unfold kd
  rw [if_neg (by omega), if_pos (by omega), e]
theorem ln_in {o d : Nat} (h : isSt o) (hd : d < 20) : ln (o + d) = if d = 3 then 7 else 10 := by
  obtain ⟨i, h1, rfl⟩ := h
  have e : (1 + 20 * i + d - 1) % 20 = d := by omega
  unfold ln
  rw [if_pos (by omega), e]
theorem rf_in {o d j : Nat} (h : isSt o) (hd : d < 20) : rf (o + d) j = if d = 0 then o + d + 1 + j else if d = 3 then o + d + 3 + 2 * j else o + d + 1 := by
  obtain ⟨i, h1, rfl⟩ := h
  have e : (1 + 20 * i + d - 1) % 20 = d := by omega
  unfold rf
  rw [if_neg (by omega), if_pos (by omega), e]
theorem kd_o {o : Nat} (h : isSt o) : kd o = 1 := by have := kd_in h (d := 0) (by decide); simpa using this
theorem kd_o1 {o : Nat} (h : isSt o) : kd (o + 1) = 5 := by have := kd_in h (d := 1) (by decide); simpa using this
theorem kd_o2 {o : Nat} (h : isSt o) : kd (o + 2) = 5 := by have := kd_in h (d := 2) (by decide); simpa using this
theorem kd_o3 {o : Nat} (h : isSt o) : kd (o + 3) = 9 := by have := kd_in h (d := 3) (by decide); simpa using this
theorem kd_o4 {o : Nat} (h : isSt o) : kd (o + 4) = 5 := by have := kd_in h (d := 4) (by decide); simpa using this
theorem kd_o5 {o : Nat} (h : isSt o) : kd (o + 5) = 5 := by have := kd_in h (d := 5) (by decide); simpa using this
theorem kd_tr {o t : Nat} (h : isSt o) (ht : t < 7) : kd (o + 6 + 2 * t) = 2 := by
  have := kd_in h (d := 6 + 2 * t) (by omega)
  rw [if_neg (by omega), if_neg (by omega), if_pos (by omega)] at this
  rwa [← Nat.add_assoc] at this
theorem kd_ly {o t : Nat} (h : isSt o) (ht : t < 7) : kd (o + 7 + 2 * t) = 5 := by
  have := kd_in h (d := 7 + 2 * t) (by omega)
  rw [if_neg (by omega), if_neg (by omega), if_neg (by omega)] at this
  rwa [← Nat.add_assoc] at this
theorem ln_o1 {o : Nat} (h : isSt o) : ln (o + 1) = 10 := by have := ln_in h (d := 1) (by decide); simpa using this
theorem ln_o2 {o : Nat} (h : isSt o) : ln (o + 2) = 10 := by have := ln_in h (d := 2) (by decide); simpa using this
theorem ln_o3 {o : Nat} (h : isSt o) : ln (o + 3) = 7 := by have := ln_in h (d := 3) (by decide); simpa using this
theorem ln_o4 {o : Nat} (h : isSt o) : ln (o + 4) = 10 := by have := ln_in h (d := 4) (by decide); simpa using this
theorem ln_o5 {o : Nat} (h : isSt o) : ln (o + 5) = 10 := by have := ln_in h (d := 5) (by decide); simpa using this
theorem ln_ly {o t : Nat} (h : isSt o) (ht : t < 7) : ln (o + 7 + 2 * t) = 10 := by
  have := ln_in h (d := 7 + 2 * t) (by omega)
  rw [if_neg (by omega)] at this
  rwa [← Nat.add_assoc] at this
theorem rf_o {o j : Nat} (h : isSt o) : rf o j = o + 1 + j := by have := rf_in h (d := 0) (j := j) (by decide); simpa using this
theorem rf_o0 {o : Nat} (h : isSt o) : rf o 0 = o + 1 := rf_o h
theorem rf_o1 {o : Nat} (h : isSt o) : rf o 1 = o + 2 := rf_o h
theorem rf_o2 {o : Nat} (h : isSt o) : rf o 2 = o + 3 := rf_o h
theorem rf_o3 {o : Nat} (h : isSt o) : rf o 3 = o + 4 := rf_o h
theorem rf_o4 {o : Nat} (h : isSt o) : rf o 4 = o + 5 := rf_o h
theorem rf_tr {o t : Nat} (h : isSt o) : rf (o + 3) t = o + 6 + 2 * t := by
  have := rf_in h (d := 3) (j := t) (by decide)
  rw [if_neg (by decide), if_pos rfl] at this
  rw [this]
theorem rf_ly {o t : Nat} (h : isSt o) (ht : t < 7) : rf (o + 6 + 2 * t) 0 = o + 7 + 2 * t := by
  have := rf_in h (d := 6 + 2 * t) (j := 0) (by omega)
  rw [if_neg (by omega), if_neg (by omega), ← Nat.add_assoc] at this
  rw [this]; omega
/-! rows: the state as the reference has it -/
abbrev Row : Type := Nat → Int32
def la (i : Nat) : Nat := if i < 10 then 1 else if i < 20 then 2 else if i < 25 then 0 else if i < 31 then 6 + 2 * (i - 25) else if i < 49 then 4 + (i - 31) % 2 else if i < 53 then 0 else if (i - 53) % 12 < 10 then 7 + 2 * ((i - 53) / 12) else 6 + 2 * ((i - 53) / 12)
def lb (i : Nat) : Nat := if i < 10 then i else if i < 20 then i - 10 else if i < 24 then i - 14 else if i = 24 then 5 else if i < 31 then 1 else if i < 49 then (i - 31) / 2 + 1 else if i < 53 then i - 39 else if (i - 53) % 12 < 10 then (i - 53) % 12 else (i - 53) % 12 - 8
theorem la_lt : ∀ i, i < 137 → la i < 20 := by decide +kernel
theorem l_inj {i j : Nat} (hi : i < 137) (hj : j < 137) (h1 : la i = la j) (h2 : lb i = lb j) : i = j := by
  have key : ∀ i, i < 137 → ∀ j, j < 137 → la i = la j → lb i = lb j → i = j := by decide +kernel
  exact key i hi j hj h1 h2
/-- is it an aperture -/
def isAp (i : Nat) : Prop := 25 ≤ i ∧ i < 31
def isAp' (i : Nat) : Bool := decide (25 ≤ i) && decide (i < 31)
def StR (o : Nat) (M : KMem) (r : Row) : Prop := (∀ i, i < 137 → ¬ isAp i → M (o + la i) (lb i) = r i) ∧ (∀ t, t < 6 → t < (r 24).toNatClampNeg → M (o + 6 + 2 * t) 1 = r (25 + t)) ∧ (∀ t, t < 7 → (r 24).toNatClampNeg ≤ t → M (o + 6 + 2 * t) 1 = 0)
/-- nothing outside the State at o -/
def Off (o : Nat) (M M' : KMem) : Prop := ∀ c, (c < o ∨ o + 20 ≤ c) → M' c = M c
theorem Off.rfl' {o : Nat} {M : KMem} : Off o M M := fun _ _ => rfl
theorem Off.trans {o : Nat} {M M' M'' : KMem} (h1 : Off o M M') (h2 : Off o M' M'') : Off o M M'' := fun c hc => (h2 c hc).trans (h1 c hc)
theorem Off.mset {o k j : Nat} {M M' : KMem} {v : Int32} (h : Off o M M') (h1 : o ≤ k) (h2 : k < o + 20) : Off o M (mset M' k j v) := fun c hc => by rw [mset_off (by omega)]; exact h c hc
theorem StR.get {o : Nat} {M : KMem} {r : Row} (h : StR o M r) (i : Nat) (hi : i < 137) (ha : ¬ isAp i) : M (o + la i) (lb i) = r i := h.1 i hi ha
theorem StR.off {o : Nat} {M M' : KMem} {r : Row} (h : StR o M r) (h' : ∀ c, o ≤ c → c < o + 20 → M' c = M c) : StR o M' r := by
  refine ⟨fun i hi ha => ?_, fun t ht hs => ?_, fun t ht hs => ?_⟩
  · have := la_lt i hi
    rw [h' _ (by omega) (by omega)]
    exact h.1 i hi ha
  · rw [h' _ (by omega) (by omega)]
    exact h.2.1 t ht hs
  · rw [h' _ (by omega) (by omega)]
    exact h.2.2 t ht hs
/-- a store at a place that is neither an aperture nor the number of sieves -/
theorem StR.set {o : Nat} {M : KMem} {r : Row} (h : StR o M r) (i : Nat) (hi : i < 137) (ha : ¬ isAp i) (h24 : i ≠ 24) {c j : Nat} (hc : c = o + la i) (hj : j = lb i) (v : Int32) : StR o (mset M c j v) (upd r i v) := by
  subst hc hj
  have e24 : upd r i v 24 = r 24 := if_neg (fun q => h24 q.symm)
  refine ⟨fun k hk hka => ?_, fun t ht hs => ?_, fun t ht hs => ?_⟩
  · by_cases hik : k = i
    · subst hik
      rw [mset_eq]
      exact (if_pos rfl).symm
    · rw [mset_ne (fun q => hik (l_inj hk hi (by omega) q.2)), h.1 k hk hka]
      exact (if_neg hik).symm
  · rw [e24] at hs
    rw [mset_ne, h.2.1 t ht hs]
    · exact (if_neg (fun q => ha (by unfold isAp; omega))).symm
    · intro q
      have key : ∀ t, t < 6 → la (25 + t) = 6 + 2 * t ∧ lb (25 + t) = 1 := by decide +kernel
      have := l_inj (i := 25 + t) (j := i) (by omega) hi (by rw [(key t ht).1]; omega) (by rw [(key t ht).2]; exact q.2)
      exact ha (by unfold isAp; omega)
  · rw [e24] at hs
    rw [mset_ne, h.2.2 t ht hs]
    intro q
    have key : ∀ t, t < 7 → ∀ i, i < 137 → 6 + 2 * t = la i → 1 = lb i → isAp' i = true := by decide +kernel
    have := key t ht i hi (by omega) q.2
    unfold isAp' at this
    simp only [Bool.and_eq_true, decide_eq_true_eq] at this
    exact ha this
theorem StR.congr {o : Nat} {M : KMem} {r r' : Row} (h : StR o M r) (e : ∀ i, i < 137 → r' i = r i) : StR o M r' := by
  refine ⟨fun i hi ha => by rw [e i hi]; exact h.1 i hi ha, fun t ht hs => ?_, fun t ht hs => ?_⟩
  · rw [e 24 (by decide)] at hs
    rw [e (25 + t) (by omega)]
    exact h.2.1 t ht hs
  · rw [e 24 (by decide)] at hs
    exact h.2.2 t ht hs
section STR
variable {o : Nat} {M : KMem} {r : Row}
theorem StR.smp (h : StR o M r) {k : Nat} (hk : k < 10) : M (o + 1) k = r k := by
  have := StR.get h k (by omega) (by unfold isAp; omega)
  unfold la lb at this
  rwa [if_pos hk, if_pos hk] at this
theorem StR.res (h : StR o M r) {k : Nat} (hk : k < 10) : M (o + 2) k = r (10 + k) := by
  have := StR.get h (10 + k) (by omega) (by unfold isAp; omega)
  unfold la lb at this
  rwa [if_neg (by omega), if_pos (by omega), if_neg (by omega), if_pos (by omega), show 10 + k - 10 = k from by omega] at this
theorem StR.f20 (h : StR o M r) : M o 6 = r 20 := StR.get h 20 (by decide) (by unfold isAp; omega)
theorem StR.f21 (h : StR o M r) : M o 7 = r 21 := StR.get h 21 (by decide) (by unfold isAp; omega)
theorem StR.f22 (h : StR o M r) : M o 8 = r 22 := StR.get h 22 (by decide) (by unfold isAp; omega)
theorem StR.f23 (h : StR o M r) : M o 9 = r 23 := StR.get h 23 (by decide) (by unfold isAp; omega)
theorem StR.f24 (h : StR o M r) : M o 5 = r 24 := StR.get h 24 (by decide) (by unfold isAp; omega)
theorem StR.f49 (h : StR o M r) : M o 10 = r 49 := StR.get h 49 (by decide) (by unfold isAp; omega)
theorem StR.f50 (h : StR o M r) : M o 11 = r 50 := StR.get h 50 (by decide) (by unfold isAp; omega)
theorem StR.f51 (h : StR o M r) : M o 12 = r 51 := StR.get h 51 (by decide) (by unfold isAp; omega)
theorem StR.f52 (h : StR o M r) : M o 13 = r 52 := StR.get h 52 (by decide) (by unfold isAp; omega)
theorem StR.lo (h : StR o M r) {a : Nat} (h1 : 1 ≤ a) (h9 : a < 10) : M (o + 4) a = r (31 + 2 * (a - 1)) := by
  have := StR.get h (31 + 2 * (a - 1)) (by omega) (by unfold isAp; omega)
  unfold la lb at this
  rw [if_neg (by omega), if_neg (by omega), if_neg (by omega), if_neg (by omega), if_pos (by omega), if_neg (by omega), if_neg (by omega), if_neg (by omega), if_neg (by omega), if_neg (by omega), if_pos (by omega)] at this
  rwa [show o + (4 + (31 + 2 * (a - 1) - 31) % 2) = o + 4 from by omega, show (31 + 2 * (a - 1) - 31) / 2 + 1 = a from by omega] at this
theorem StR.hi (h : StR o M r) {a : Nat} (h1 : 1 ≤ a) (h9 : a < 10) : M (o + 5) a = r (32 + 2 * (a - 1)) := by
  have := StR.get h (32 + 2 * (a - 1)) (by omega) (by unfold isAp; omega)
  unfold la lb at this
  rw [if_neg (by omega), if_neg (by omega), if_neg (by omega), if_neg (by omega), if_pos (by omega), if_neg (by omega), if_neg (by omega), if_neg (by omega), if_neg (by omega), if_neg (by omega), if_pos (by omega)] at this
  rwa [show o + (4 + (32 + 2 * (a - 1) - 31) % 2) = o + 5 from by omega, show (32 + 2 * (a - 1) - 31) / 2 + 1 = a from by omega] at this
theorem la_ly {t k : Nat} (hk : k < 10) : la (53 + 12 * t + k) = 7 + 2 * t := by
  unfold la
  rw [if_neg (by omega), if_neg (by omega), if_neg (by omega), if_neg (by omega), if_neg (by omega), if_neg (by omega), if_pos (by omega)]
  omega
theorem lb_ly {t k : Nat} (hk : k < 10) : lb (53 + 12 * t + k) = k := by
  unfold lb
  rw [if_neg (by omega), if_neg (by omega), if_neg (by omega), if_neg (by omega), if_neg (by omega), if_neg (by omega), if_neg (by omega), if_pos (by omega)]
  omega
theorem la_sk {t k : Nat} (h1 : 10 ≤ k) (hk : k < 12) : la (53 + 12 * t + k) = 6 + 2 * t := by
  unfold la
  rw [if_neg (by omega), if_neg (by omega), if_neg (by omega), if_neg (by omega), if_neg (by omega), if_neg (by omega), if_neg (by omega)]
  omega
theorem lb_sk {t k : Nat} (h1 : 10 ≤ k) (hk : k < 12) : lb (53 + 12 * t + k) = k - 8 := by
  unfold lb
  rw [if_neg (by omega), if_neg (by omega), if_neg (by omega), if_neg (by omega), if_neg (by omega), if_neg (by omega), if_neg (by omega), if_neg (by omega)]
  omega
theorem StR.ly (h : StR o M r) {t k : Nat} (ht : t < 7) (hk : k < 10) : M (o + 7 + 2 * t) k = r (53 + 12 * t + k) := by
  have := StR.get h (53 + 12 * t + k) (by omega) (by unfold isAp; omega)
  rwa [la_ly hk, lb_ly hk, ← Nat.add_assoc] at this
theorem StR.sk (h : StR o M r) {t : Nat} (ht : t < 7) : M (o + 6 + 2 * t) 2 = r (53 + 12 * t + 10) := by
  have := StR.get h (53 + 12 * t + 10) (by omega) (by unfold isAp; omega)
  rwa [la_sk (by omega) (by omega), lb_sk (by omega) (by omega), ← Nat.add_assoc] at this
theorem StR.co (h : StR o M r) {t : Nat} (ht : t < 7) : M (o + 6 + 2 * t) 3 = r (53 + 12 * t + 11) := by
  have := StR.get h (53 + 12 * t + 11) (by omega) (by unfold isAp; omega)
  rwa [la_sk (by omega) (by omega), lb_sk (by omega) (by omega), ← Nat.add_assoc] at this
theorem StR.setLy (h : StR o M r) {t k : Nat} (ht : t < 7) (hk : k < 10) (v : Int32) : StR o (mset M (o + 7 + 2 * t) k v) (upd r (53 + 12 * t + k) v) :=
  StR.set h _ (by omega) (by unfold isAp; omega) (by omega) (by rw [la_ly hk]; omega) (by rw [lb_ly hk]) v
theorem StR.setSk (h : StR o M r) {t : Nat} (ht : t < 7) (v : Int32) : StR o (mset M (o + 6 + 2 * t) 2 v) (upd r (53 + 12 * t + 10) v) :=
  StR.set h _ (by omega) (by unfold isAp; omega) (by omega) (by rw [la_sk (by omega) (by omega)]; omega) (by rw [lb_sk (by omega) (by omega)]) v
theorem StR.setCo (h : StR o M r) {t : Nat} (ht : t < 7) (v : Int32) : StR o (mset M (o + 6 + 2 * t) 3 v) (upd r (53 + 12 * t + 11) v) :=
  StR.set h _ (by omega) (by unfold isAp; omega) (by omega) (by rw [la_sk (by omega) (by omega)]; omega) (by rw [lb_sk (by omega) (by omega)]) v
theorem StR.setSmp (h : StR o M r) {k : Nat} (hk : k < 10) (v : Int32) : StR o (mset M (o + 1) k v) (upd r k v) :=
  StR.set h k (by omega) (by unfold isAp; omega) (by omega) (by unfold la; rw [if_pos hk]) (by unfold lb; rw [if_pos hk]) v
theorem StR.setRes (h : StR o M r) {k : Nat} (hk : k < 10) (v : Int32) : StR o (mset M (o + 2) k v) (upd r (10 + k) v) :=
  StR.set h (10 + k) (by omega) (by unfold isAp; omega) (by omega) (by unfold la; rw [if_neg (by omega), if_pos (by omega)]) (by unfold lb; rw [if_neg (by omega), if_pos (by omega)]; omega) v
end STR
