/-! WHAT A STATE OF THE REFERENCE IS: groups of its fields and arrays (role 40: the object; 41 + k: the array of its field k) -/
/-- the facts -/
def mFc (G : gG) (h : fH) (mf : Nat → Value) (nf : Nat) (fl fk fd fw fv : Nat → Nat) : Prop :=
  ∃ a7 a8 a9 a10 a11 : Nat, (mf 7 = .ref a7 ∧ mf 8 = .ref a8 ∧ mf 9 = .ref a9 ∧ mf 10 = .ref a10 ∧ mf 11 = .ref a11 ∧ mf 12 = .int (nI nf)) ∧
  (h a7 = some (48, 0, .inl (G.2.1 0, 300, .inl (fun i => nI (fl i)))) ∧ h a8 = some (49, 0, .inl (G.2.1 0, 300, .inl (fun i => nI (fk i)))) ∧ h a9 = some (50, 0, .inl (G.2.1 1, 300, .inr (.inl (fun i => lN (fd i))))) ∧ h a10 = some (51, 0, .inl (G.2.1 1, 300, .inr (.inl (fun i => lN (fw i))))) ∧ h a11 = some (52, 0, .inl (G.2.1 1, 300, .inr (.inl (fun i => lN (fv i)))))) ∧
  nf ≤ 300 ∧ (∀ i, fl i < 30) ∧ (∀ i, fk i < 6) ∧ (∀ i, fd i ≤ 100000) ∧ (∀ i, fw i ≤ 100000) ∧ ∀ i, fv i ≤ 100000000
/-- the editions and the rules (the eleventh place holds what was read last) -/
def mEd (G : gG) (h : fH) (mf : Nat → Value) (ne : Nat) (ef rr rm : Nat → Nat) : Prop :=
  ∃ a3 a4 a5 : Nat, (mf 3 = .ref a3 ∧ mf 4 = .ref a4 ∧ mf 5 = .ref a5 ∧ mf 6 = .int (nI ne)) ∧
  (h a3 = some (44, 0, .inl (G.2.1 0, 2200, .inl (fun i => nI (rr i)))) ∧ h a4 = some (45, 0, .inl (G.2.1 0, 11, .inl (fun i => nI (rm i)))) ∧ h a5 = some (46, 0, .inl (G.2.1 1, 11, .inr (.inl (fun i => lN (ef i)))))) ∧
  ne ≤ 10 ∧ (∀ i, rm i ≤ 40) ∧ (∀ i, ef i ≤ 100000) ∧ ∀ i, rr i ≤ 100000000
/-- the edition of a day -/
def eoC (ef : Nat → Nat) (day n : Nat) (x : Option Nat) : Bool := decide (ef n ≤ day) && (match x with | none => true | some b => decide (ef b ≤ ef n))
def eo (ef : Nat → Nat) (day : Nat) : Nat → Option Nat
  | 0 => none
  | n + 1 => if eoC ef day n (eo ef day n) = true then some n else eo ef day n
theorem eo_yes {ef : Nat → Nat} {day n : Nat} (h : eoC ef day n (eo ef day n) = true) : eo ef day (n + 1) = some n := by
  show (if _ then _ else _) = _
  exact if_pos h
theorem eo_no {ef : Nat → Nat} {day n : Nat} (h : ¬ eoC ef day n (eo ef day n) = true) : eo ef day (n + 1) = eo ef day n := by
  show (if _ then _ else _) = _
  exact if_neg h
theorem eo_lt {ef : Nat → Nat} {day : Nat} : ∀ {n b : Nat}, eo ef day n = some b → b < n ∧ ef b ≤ day
  | 0, b, h => by cases h
  | n + 1, b, h => by
    by_cases hc : eoC ef day n (eo ef day n) = true
    · rw [eo_yes hc] at h
      cases h
      simp only [eoC, Bool.and_eq_true, decide_eq_true_eq] at hc
      exact ⟨by omega, hc.1⟩
    · rw [eo_no hc] at h
      have := eo_lt h
      exact ⟨by omega, this.2⟩
def oN (x : Option Nat) : Int32 := match x with
  | none => -1
  | some n => nI n
/-- the first place with P, of k places from i on -/
def ff (P : Nat → Bool) : Nat → Nat → Option Nat
  | _, 0 => none
  | i, k + 1 => if P i = true then some i else ff P (i + 1) k
theorem ff_in {P : Nat → Bool} : ∀ {k i n : Nat}, ff P i k = some n → i ≤ n ∧ n < i + k ∧ P n = true
  | 0, i, n, h => by cases h
  | k + 1, i, n, h => by
    unfold ff at h
    split at h
    · next hp => cases h; exact ⟨Nat.le_refl _, by omega, hp⟩
    · obtain ⟨h1, h2, h3⟩ := ff_in h; exact ⟨by omega, by omega, h3⟩
theorem ff_congr {P P' : Nat → Bool} : ∀ {k i : Nat}, (∀ n, i ≤ n → n < i + k → P n = P' n) → ff P i k = ff P' i k
  | 0, i, h => rfl
  | k + 1, i, h => by
    unfold ff
    rw [h i (Nat.le_refl _) (by omega), ff_congr (fun n h1 h2 => h n (by omega) (by omega))]
/-- rule n of edition e is of a kind, of goods (where the kind has goods), and of a strength (where it is a rate) -/
def fp (rr : Nat → Nat) (e K g st n : Nat) : Bool := decide (rr ((e * 40 + n) * 5) = K ∧ (4 ≤ K ∨ rr ((e * 40 + n) * 5 + 1) = g) ∧ (K ≠ 0 ∨ (rr ((e * 40 + n) * 5 + 2) ≤ st ∧ st < rr ((e * 40 + n) * 5 + 3))))
