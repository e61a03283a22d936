/-! WHAT A STATE OF THE REFERENCE IS: groups of its fields and arrays (role 40: the object; 41 + k: the array of its field k) -/
/-- the greatest value of a kind of fact -/
def mostN (k : Nat) : Nat := if k = 0 then 9 else if k = 1 then 10000 else if k = 3 then 100000000 else 1000000
theorem mostN_le (k : Nat) : mostN k ≤ 100000000 := by unfold mostN; split <;> (try split) <;> (try split) <;> omega
/-- the ranges of a rule's numbers, by its kind -/
def okR (k v1 v2 v3 v4 : Nat) : Prop := k < 6 ∧ (k < 4 → v1 ≤ 9) ∧ (k = 0 → v2 ≤ 10000 ∧ v3 ≤ 10000 ∧ v4 ≤ 1000000) ∧ (k = 1 → v2 ≤ 100000000 ∧ v3 ≤ 100) ∧ (k = 2 → v2 ≤ 100) ∧ (k = 3 → v2 ≤ 100) ∧ (k = 4 → 1 ≤ v1 ∧ v1 ≤ 1000) ∧ (k = 5 → v1 ≤ 100)
/-- the facts -/
def mFc (G : gG) (h : fH) (mf : Nat → Value) (nf : Nat) (fl fk fd fw fv : Nat → Nat) : Prop :=
  ∃ a7 a8 a9 a10 a11 : Nat, (mf 7 = .ref a7 ∧ mf 8 = .ref a8 ∧ mf 9 = .ref a9 ∧ mf 10 = .ref a10 ∧ mf 11 = .ref a11 ∧ mf 12 = .int (nI nf)) ∧
  (h a7 = some (48, 0, .inl (G.2.1 0, 300, .inl (fun i => nI (fl i)))) ∧ h a8 = some (49, 0, .inl (G.2.1 0, 300, .inl (fun i => nI (fk i)))) ∧ h a9 = some (50, 0, .inl (G.2.1 1, 300, .inr (.inl (fun i => lN (fd i))))) ∧ h a10 = some (51, 0, .inl (G.2.1 1, 300, .inr (.inl (fun i => lN (fw i))))) ∧ h a11 = some (52, 0, .inl (G.2.1 1, 300, .inr (.inl (fun i => lN (fv i)))))) ∧
  nf ≤ 300 ∧ (∀ i, fl i < 30) ∧ (∀ i, fk i < 6) ∧ (∀ i, fd i ≤ 100000) ∧ (∀ i, fw i ≤ 100000) ∧ ∀ i, fv i ≤ mostN (fk i)
/-- the editions and the rules (the eleventh place holds what was read last) -/
def mEd (G : gG) (h : fH) (mf : Nat → Value) (ne : Nat) (ef rr rm : Nat → Nat) : Prop :=
  ∃ a3 a4 a5 : Nat, (mf 3 = .ref a3 ∧ mf 4 = .ref a4 ∧ mf 5 = .ref a5 ∧ mf 6 = .int (nI ne)) ∧
  (h a3 = some (44, 0, .inl (G.2.1 0, 2200, .inl (fun i => nI (rr i)))) ∧ h a4 = some (45, 0, .inl (G.2.1 0, 11, .inl (fun i => nI (rm i)))) ∧ h a5 = some (46, 0, .inl (G.2.1 1, 11, .inr (.inl (fun i => lN (ef i)))))) ∧
  ne ≤ 10 ∧ (∀ i, rm i ≤ 40) ∧ (∀ i, ef i ≤ 100000) ∧ (∀ i, rr i ≤ 100000000) ∧ ∀ e n, e < 11 → n < rm e → okR (rr ((e * 40 + n) * 5)) (rr ((e * 40 + n) * 5 + 1)) (rr ((e * 40 + n) * 5 + 2)) (rr ((e * 40 + n) * 5 + 3)) (rr ((e * 40 + n) * 5 + 4))
/-- the edition of a day -/
def eoC (ef : Nat → Nat) (day n : Nat) (x : Option Nat) : Bool := decide (ef n ≤ day) && (match x with | none => true | some b => decide (ef b ≤ ef n))
def eo (ef : Nat → Nat) (day : Nat) : Nat → Option Nat
  | 0 => none
  | n + 1 => if eoC ef day n (eo ef day n) = true then some n else eo ef day n
theorem eo_yes {ef : Nat → Nat} {day n : Nat} (h : eoC ef day n (eo ef day n) = true) : eo ef day (n + 1) = some n := by
  show (if _ then _ else _) = _
  exact if_pos h
theorem eo_no {ef : Nat → Nat} {day n : Nat} (h : ¬ eoC ef day n (eo ef day n) = true) : eo ef day (n + 1) = eo ef day n := by
  show (if _ then _ else _) = _
  exact if_neg h
theorem eo_lt {ef : Nat → Nat} {day : Nat} : ∀ {n b : Nat}, eo ef day n = some b → b < n ∧ ef b ≤ day
  | 0, b, h => by cases h
  | n + 1, b, h => by
    by_cases hc : eoC ef day n (eo ef day n) = true
    · rw [eo_yes hc] at h
      cases h
      simp only [eoC, Bool.and_eq_true, decide_eq_true_eq] at hc
      exact ⟨by omega, hc.1⟩
    · rw [eo_no hc] at h
      have := eo_lt h
      exact ⟨by omega, this.2⟩
def oN (x : Option Nat) : Int32 := match x with
  | none => -1
  | some n => nI n
/-- the first place with P, of k places from i on -/
def ff (P : Nat → Bool) : Nat → Nat → Option Nat
  | _, 0 => none
  | i, k + 1 => if P i = true then some i else ff P (i + 1) k
theorem ff_in {P : Nat → Bool} : ∀ {k i n : Nat}, ff P i k = some n → i ≤ n ∧ n < i + k ∧ P n = true
  | 0, i, n, h => by cases h
  | k + 1, i, n, h => by
    unfold ff at h
    split at h
    · next hp => cases h; exact ⟨Nat.le_refl _, by omega, hp⟩
    · obtain ⟨h1, h2, h3⟩ := ff_in h; exact ⟨by omega, by omega, h3⟩
theorem ff_congr {P P' : Nat → Bool} : ∀ {k i : Nat}, (∀ n, i ≤ n → n < i + k → P n = P' n) → ff P i k = ff P' i k
  | 0, i, h => rfl
  | k + 1, i, h => by
    unfold ff
    rw [h i (Nat.le_refl _) (by omega), ff_congr (fun n h1 h2 => h n (by omega) (by omega))]
/-- rule n of edition e is of a kind, of goods (where the kind has goods), and of a strength (where it is a rate) -/
def fp (rr : Nat → Nat) (e K g st n : Nat) : Bool := decide (rr ((e * 40 + n) * 5) = K ∧ (4 ≤ K ∨ rr ((e * 40 + n) * 5 + 1) = g) ∧ (K ≠ 0 ∨ (rr ((e * 40 + n) * 5 + 2) ≤ st ∧ st < rr ((e * 40 + n) * 5 + 3))))
/-! THE DUTY: steps (letter, rule, whole cents), free litres, cents -/
def CT : Nat := 100000000000
abbrev dst : Type := List (Nat × Nat × Nat) × Nat × Nat
def sA (li pay rate : Nat) : dst := ([(0, rate, li * pay * 1000000 / CT)], 0, li * pay * 1000000)
def sB1 (li pay v up r : Nat) (d : dst) : dst := (d.1 ++ [(1, r, (d.2.2 - min (v * 100) (li * up) * pay * 10000) / CT)], min (v * 100) (li * up), d.2.2 - min (v * 100) (li * up) * pay * 10000)
def sB (li pay : Nat) (lost loss : Option Nat) (V : Nat → Nat → Nat) (d : dst) : dst := match lost, loss with
  | some v, some r => sB1 li pay v (V r 2) r d
  | _, _ => d
def sC1 (li pay v t r : Nat) (d : dst) : dst := (d.1 ++ [(2, r, (d.2.2 - min (v * 100) (li * 100 - d.2.1) * pay * t * 100) / CT)], d.2.1, d.2.2 - min (v * 100) (li * 100 - d.2.1) * pay * t * 100)
def sC (li pay : Nat) (gone away : Option Nat) (V : Nat → Nat → Nat) (d : dst) : dst := match gone, away with
  | some v, some r => sC1 li pay v (V r 2) r d
  | _, _ => d
def sD1 (t r : Nat) (d : dst) : dst := (d.1 ++ [(3, r, d.2.2 / 100 * t / CT)], d.2.1, d.2.2 / 100 * t)
def sD (small year : Option Nat) (V : Nat → Nat → Nat) (d : dst) : dst := match small, year with
  | some r, some y => if y < V r 2 then sD1 (V r 3) r d else d
  | _, _ => d
def sE1 (n r : Nat) (d : dst) : dst := (d.1 ++ [(4, r, (2 * d.2.2 + n * CT) / (2 * (n * CT)) * (n * CT) / CT)], d.2.1, (2 * d.2.2 + n * CT) / (2 * (n * CT)) * (n * CT))
def sE (round : Option Nat) (V : Nat → Nat → Nat) (d : dst) : dst := match round with
  | some r => sE1 (V r 1) r d
  | none => d
def d0 : dst := ([], 0, 0)
def rkS (K : Nat → Option Nat) (F : Nat → Nat → Nat → Option Nat) (V : Nat → Nat → Nat) (g li rate : Nat) : dst :=
  sE (F 4 0 0) V (sD (F 1 g 0) (K 3) V (sC li (V rate 4) (K 5) (F 3 g 0) V (sB li (V rate 4) (K 4) (F 2 g 0) V (sA li (V rate 4) rate))))
def rkE (K : Nat → Option Nat) (F : Nat → Nat → Nat → Option Nat) (V : Nat → Nat → Nat) : Int32 × dst := match K 0 with
  | none => (0, d0)
  | some g => match K 1 with
    | none => (1, d0)
    | some st => match K 2 with
      | none => (2, d0)
      | some li => match F 0 g st with
        | none => (21, d0)
        | some rate => if (F 1 g 0).isSome = true ∧ (K 3).isNone = true then (3, d0) else (-1, rkS K F V g li rate)
def rk (K : Nat → Option Nat) (ed : Option ((Nat → Nat → Nat → Option Nat) × (Nat → Nat → Nat))) : Int32 × dst := match ed with
  | none => (20, d0)
  | some q => rkE K q.1 q.2
/-- a fact's value by its key -/
def kv (fv : Nat → Nat) (k : Nat) : Option Nat := if k = 0 then none else some (fv ((k - 1) % 1000))
/-- the reference's ways to find a rule and a rule's number -/
def mF (rr rm : Nat → Nat) (e : Nat) : Nat → Nat → Nat → Option Nat := fun k g st => ff (fp rr e k g st) 0 (rm e)
def mV (rr : Nat → Nat) (e : Nat) : Nat → Nat → Nat := fun n k => rr ((e * 40 + n) * 5 + k)
/-- the reference's last reckoning -/
def mSt (G : gG) (h : fH) (mf : Nat → Value) (rs : Int32) (ns : Nat) (sl sr sc : Nat → Nat) (fr ce : Nat) : Prop :=
  ∃ a15 a16 a17 : Nat, (mf 14 = .int rs ∧ mf 15 = .ref a15 ∧ mf 16 = .ref a16 ∧ mf 17 = .ref a17 ∧ mf 18 = .int (nI ns) ∧ mf 19 = .long (lN fr) ∧ mf 20 = .long (lN ce)) ∧
  (h a15 = some (56, 0, .inl (G.2.1 0, 5, .inl (fun i => nI (sl i)))) ∧ h a16 = some (57, 0, .inl (G.2.1 0, 5, .inl (fun i => nI (sr i)))) ∧ h a17 = some (58, 0, .inl (G.2.1 1, 5, .inr (.inl (fun i => lN (sc i))))))
def mSd (G : gG) (h : fH) (mf : Nat → Value) (rs : Int32) (d : dst) : Prop :=
  ∃ sl sr sc : Nat → Nat, mSt G h mf rs d.1.length sl sr sc d.2.1 d.2.2 ∧ ∀ (i : Nat) (q : Nat × Nat × Nat), d.1[i]? = some q → sl i = q.1 ∧ sr i = q.2.1 ∧ sc i = q.2.2
theorem mFc.keep {G : gG} {h h' : fH} {mf mf' : Nat → Value} {nf : Nat} {fl fk fd fw fv : Nat → Nat} {S : List Nat} (H : mFc G h mf nf fl fk fd fw fv) (hm : ∀ j, 7 ≤ j → j ≤ 12 → mf' j = mf j) (hF : fF (inR S) h h') (hS : S.all (fun r => decide (r < 48 ∨ 52 < r)) = true) : mFc G h' mf' nf fl fk fd fw fv := by
  have hs : ∀ r, 48 ≤ r → r ≤ 52 → ¬ r ∈ S := fun r h1 h2 hr => by have := List.all_eq_true.mp hS r hr; simp only [decide_eq_true_eq] at this; omega
  obtain ⟨a7, a8, a9, a10, a11, ⟨v7, v8, v9, v10, v11, v12⟩, ⟨g7, g8, g9, g10, g11⟩, b⟩ := H
  exact ⟨a7, a8, a9, a10, a11, ⟨by rw [hm 7 (by decide) (by decide)]; exact v7, by rw [hm 8 (by decide) (by decide)]; exact v8, by rw [hm 9 (by decide) (by decide)]; exact v9, by rw [hm 10 (by decide) (by decide)]; exact v10, by rw [hm 11 (by decide) (by decide)]; exact v11, by rw [hm 12 (by decide) (by decide)]; exact v12⟩,
    ⟨hF _ _ _ _ g7 (hs _ (by decide) (by decide)), hF _ _ _ _ g8 (hs _ (by decide) (by decide)), hF _ _ _ _ g9 (hs _ (by decide) (by decide)), hF _ _ _ _ g10 (hs _ (by decide) (by decide)), hF _ _ _ _ g11 (hs _ (by decide) (by decide))⟩, b⟩
theorem mEd.keep {G : gG} {h h' : fH} {mf mf' : Nat → Value} {ne : Nat} {ef rr rm : Nat → Nat} {S : List Nat} (H : mEd G h mf ne ef rr rm) (hm : ∀ j, 3 ≤ j → j ≤ 6 → mf' j = mf j) (hF : fF (inR S) h h') (hS : S.all (fun r => decide (r < 44 ∨ 46 < r)) = true) : mEd G h' mf' ne ef rr rm := by
  have hs : ∀ r, 44 ≤ r → r ≤ 46 → ¬ r ∈ S := fun r h1 h2 hr => by have := List.all_eq_true.mp hS r hr; simp only [decide_eq_true_eq] at this; omega
  obtain ⟨a3, a4, a5, ⟨v3, v4, v5, v6⟩, ⟨g3, g4, g5⟩, b⟩ := H
  exact ⟨a3, a4, a5, ⟨by rw [hm 3 (by decide) (by decide)]; exact v3, by rw [hm 4 (by decide) (by decide)]; exact v4, by rw [hm 5 (by decide) (by decide)]; exact v5, by rw [hm 6 (by decide) (by decide)]; exact v6⟩,
    ⟨hF _ _ _ _ g3 (hs _ (by decide) (by decide)), hF _ _ _ _ g4 (hs _ (by decide) (by decide)), hF _ _ _ _ g5 (hs _ (by decide) (by decide))⟩, b⟩
theorem kv_0 (fv : Nat → Nat) : kv fv 0 = none := rfl
theorem kv_k {fv fd : Nat → Nat} {i : Nat} (hi : i < 1000) : kv fv (kK fd i) = some (fv i) := by
  unfold kv kK
  rw [if_neg (by omega)]
  congr 2
  omega
theorem mSd.add {L : List (Nat × Nat × Nat)} {sl sr sc : Nat → Nat} (hq : ∀ (i : Nat) (q : Nat × Nat × Nat), L[i]? = some q → sl i = q.1 ∧ sr i = q.2.1 ∧ sc i = q.2.2) (a b c : Nat) : ∀ (i : Nat) (q : Nat × Nat × Nat), (L ++ [(a, b, c)])[i]? = some q → va_up sl L.length a i = q.1 ∧ va_up sr L.length b i = q.2.1 ∧ va_up sc L.length c i = q.2.2 := by
  intro i q hi
  by_cases hl : i < L.length
  · rw [List.getElem?_append_left hl] at hi
    have h3 : i ≠ L.length := by omega
    rw [va_up_ne _ _ h3, va_up_ne _ _ h3, va_up_ne _ _ h3]
    exact hq i q hi
  · rw [List.getElem?_append_right (by omega)] at hi
    have hz : i - L.length < 1 := (List.getElem?_eq_some_iff.mp hi).1
    have h3 : i = L.length := by omega
    subst h3
    rw [Nat.sub_self] at hi
    cases hi
    rw [va_up_self, va_up_self, va_up_self]
    exact ⟨rfl, rfl, rfl⟩
/-- the reference's view of an edition's rules -/
def mE (ne : Nat) (ef rr rm : Nat → Nat) (day : Nat) : Option ((Nat → Nat → Nat → Option Nat) × (Nat → Nat → Nat)) := match eo ef day ne with
  | none => none
  | some e => some (mF rr rm e, mV rr e)
/-- the reference's view of the facts -/
noncomputable def mK (nf : Nat) (fl fk fd fw fv : Nat → Nat) (lot day on : Nat) : Nat → Option Nat := fun k => kv fv (hk fl fk fd fw lot k day on nf)
theorem mulle {a b c d : Nat} (h1 : a ≤ b) (h2 : c ≤ d) : a * c ≤ b * d := Nat.mul_le_mul h1 h2
theorem fp_k {rr : Nat → Nat} {e K g st n : Nat} (h : fp rr e K g st n = true) : rr ((e * 40 + n) * 5) = K := by
  unfold fp at h
  simp only [decide_eq_true_eq] at h
  exact h.1
theorem least_min {a b : Nat} (ha : a < 2 ^ 63) (hb : b < 2 ^ 63) : (if lN b ≤ lN a then lN b else lN a) = lN (min a b) := by
  by_cases h : b ≤ a
  · rw [if_pos ((pk_lLE hb ha).mpr h), Nat.min_eq_right h]
  · rw [if_neg (fun q => h ((pk_lLE hb ha).mp q)), Nat.min_eq_left (by omega)]
theorem half_le (a n : Nat) : a / (2 * n) * n ≤ a := by
  have h1 : a / (2 * n) * (2 * n) ≤ a := Nat.div_mul_le_self _ _
  have h2 : a / (2 * n) * (2 * n) = 2 * (a / (2 * n) * n) := by rw [← Nat.mul_assoc, Nat.mul_comm (a / (2 * n)) 2, Nat.mul_assoc]
  omega
