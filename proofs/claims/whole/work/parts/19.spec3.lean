/-! an edition's rules are copied; the last fact of a lot and kind -/
def cp (rr : Nat → Nat) (ne n : Nat) : Nat → Nat := fun i => if ne * 40 * 5 ≤ i ∧ i < ne * 40 * 5 + n then rr (2000 + (i - ne * 40 * 5)) else rr i
theorem cp_0 (rr : Nat → Nat) (ne : Nat) : cp rr ne 0 = rr := by
  funext i
  unfold cp
  rw [if_neg (by omega)]
theorem cp_up {rr : Nat → Nat} {ne n : Nat} (h : ne < 10) (hn : n < 200) : upd (fun i => nI (cp rr ne n i)) (ne * 40 * 5 + n) (nI (cp rr ne n (2000 + n))) = fun i => nI (cp rr ne (n + 1) i) := by
  funext i
  have h1 : cp rr ne n (2000 + n) = rr (2000 + n) := by unfold cp; rw [if_neg (by omega)]
  rw [h1]
  unfold upd
  by_cases hi : i = ne * 40 * 5 + n
  · rw [if_pos hi]
    unfold cp
    rw [if_pos (by omega)]
    congr 2
    omega
  · rw [if_neg hi]
    unfold cp
    dsimp only
    by_cases h2 : ne * 40 * 5 ≤ i ∧ i < ne * 40 * 5 + n
    · rw [if_pos h2, if_pos (by omega)]
    · rw [if_neg h2, if_neg (by omega)]
theorem cp_at {rr : Nat → Nat} {ne e n j : Nat} (he : e < 11) (hn : n < 40) (hj : j < 5) : cp rr ne 200 ((e * 40 + n) * 5 + j) = if e = ne then rr ((10 * 40 + n) * 5 + j) else rr ((e * 40 + n) * 5 + j) := by
  unfold cp
  by_cases h : e = ne
  · subst h
    rw [if_pos rfl, if_pos (by omega)]
    congr 1
    omega
  · rw [if_neg h, if_neg (by omega)]
theorem cp_le {rr : Nat → Nat} {ne n M : Nat} (h : ∀ i, rr i ≤ M) (i : Nat) : cp rr ne n i ≤ M := by
  unfold cp
  split
  · exact h _
  · exact h _
def lst (P : Nat → Bool) : Nat → Option Nat
  | 0 => none
  | n + 1 => if P n = true then some n else lst P n
theorem lst_in {P : Nat → Bool} : ∀ {n f : Nat}, lst P n = some f → f < n ∧ P f = true
  | 0, f, h => by cases h
  | n + 1, f, h => by
    by_cases hp : P n = true
    · have e1 : lst P (n + 1) = some n := if_pos hp
      rw [e1] at h
      cases h
      exact ⟨by omega, hp⟩
    · have e1 : lst P (n + 1) = lst P n := if_neg hp
      rw [e1] at h
      have := lst_in h
      exact ⟨by omega, this.2⟩
def lP (fl fk : Nat → Nat) (lot kind : Int32) (f : Nat) : Bool := decide (nI (fl f) = lot ∧ nI (fk f) = kind)
theorem up_le {f : Nat → Nat} {k v M : Nat} (h : ∀ i, f i ≤ M) (hv : v ≤ M) (i : Nat) : va_up f k v i ≤ M := by
  unfold va_up
  split
  · exact hv
  · exact h i
theorem up_lt {f : Nat → Nat} {k v M : Nat} (h : ∀ i, f i < M) (hv : v < M) (i : Nat) : va_up f k v i < M := by
  unfold va_up
  split
  · exact hv
  · exact h i
theorem max_l {a b : Nat} (ha : a < 2 ^ 63) (hb : b < 2 ^ 63) : (if lN b < lN a then lN a else lN b) = lN (max b a) := by
  by_cases h : b < a
  · rw [if_pos ((pk_lLT hb ha).mpr h), Nat.max_eq_right (by omega)]
  · rw [if_neg (fun q => h ((pk_lLT hb ha).mp q)), Nat.max_eq_left (by omega)]
theorem most_n {k : Nat} (hk : k < 6) : (if nI k = 0 then (9 : Int64) else (if nI k = 1 then 10000 else (if nI k = 3 then 100000000 else 1000000))) = lN (mostN k) := by
  rcases (show k = 0 ∨ k = 1 ∨ k = 2 ∨ k = 3 ∨ k = 4 ∨ k = 5 by omega) with rfl | rfl | rfl | rfl | rfl | rfl <;> decide
