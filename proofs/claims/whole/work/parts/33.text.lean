theorem ch_b {c : Nat} (h : c < 256) : ((sb_b c &&& 255).toUInt32 % 65536).toInt32 = nI c := by rw [(sb_byte c h).1, (sb_byte c h).2.1]
/-! WORDS -/
def isB (c : Nat) : Bool := decide (c = 32) || decide (c = 10)
theorem isB_n {c : Nat} (h : c < 2 ^ 31) : (if nI c = 32 then (1 : Int32) else (if nI c = 10 then 1 else 0)) = if isB c = true then 1 else 0 := by
  have e1 : nI c = 32 ↔ c = 32 := n_eq (b := 32) h (by decide)
  have e2 : nI c = 10 ↔ c = 10 := n_eq (b := 10) h (by decide)
  by_cases h1 : c = 32
  · rw [if_pos (e1.mpr h1), if_pos (by simp [isB, h1])]
  · rw [if_neg (fun q => h1 (e1.mp q))]
    by_cases h2 : c = 10
    · rw [if_pos (e2.mpr h2), if_pos (by simp [isB, h2])]
    · rw [if_neg (fun q => h2 (e2.mp q)), if_neg (by simp [isB, h1, h2])]
/-- the first place with P, of k places from i on, or the end -/
def fi (P : Nat → Bool) : Nat → Nat → Nat
  | i, 0 => i
  | i, k + 1 => if P i = true then i else fi P (i + 1) k
theorem fi_yes {P : Nat → Bool} {i k : Nat} (h : P i = true) : fi P i (k + 1) = i := if_pos h
theorem fi_no {P : Nat → Bool} {i k : Nat} (h : ¬ P i = true) : fi P i (k + 1) = fi P (i + 1) k := if_neg h
theorem fi_le {P : Nat → Bool} : ∀ (k i : Nat), i ≤ fi P i k ∧ fi P i k ≤ i + k
  | 0, i => ⟨Nat.le_refl _, Nat.le_refl _⟩
  | k + 1, i => by
    by_cases h : P i = true
    · rw [fi_yes h]; omega
    · rw [fi_no h]; have := fi_le (P := P) k (i + 1); omega
theorem fi_at {P : Nat → Bool} : ∀ (k i : Nat), fi P i k < i + k → P (fi P i k) = true
  | 0, i, h => absurd h (Nat.lt_irrefl _)
  | k + 1, i, h => by
    by_cases hp : P i = true
    · rw [fi_yes hp]; exact hp
    · rw [fi_no hp] at h ⊢; exact fi_at k (i + 1) (by omega)
def qB (tx : Nat → Nat) : Nat → Bool := fun j => !isB (tx j)
def qE (tx : Nat → Nat) : Nat → Bool := fun j => isB (tx j) || decide (tx j = 59)
/-- a word's begin, looked for from i on; its end -/
def wb (tx : Nat → Nat) (n i : Nat) : Nat := fi (qB tx) i (n - i)
def we (tx : Nat → Nat) (n b : Nat) : Nat := if b < n ∧ tx b = 59 then b + 1 else fi (qE tx) b (n - b)
theorem wb_le {tx : Nat → Nat} {n i : Nat} (h : i ≤ n) : i ≤ wb tx n i ∧ wb tx n i ≤ n := by
  have := fi_le (P := qB tx) (n - i) i
  unfold wb
  omega
theorem we_le {tx : Nat → Nat} {n b : Nat} (h : b ≤ n) : b ≤ we tx n b ∧ we tx n b ≤ n := by
  have := fi_le (P := qE tx) (n - b) b
  unfold we
  split <;> omega
/-- a word that begins within the text is not empty -/
theorem we_lt {tx : Nat → Nat} {n i : Nat} (h : i ≤ n) (hb : wb tx n i < n) : wb tx n i < we tx n (wb tx n i) := by
  have h0 : wb tx n i < i + (n - i) := by omega
  have h1 : qB tx (wb tx n i) = true := fi_at (P := qB tx) (n - i) i h0
  unfold we
  split
  · omega
  · next hc =>
    have h2 : ¬ tx (wb tx n i) = 59 := fun q => hc ⟨hb, q⟩
    have h3 : n - wb tx n i = (n - wb tx n i - 1) + 1 := by omega
    rw [h3, fi_no (by simp only [qE, qB, Bool.not_eq_true'] at h1 ⊢; simp [h1, h2])]
    have := fi_le (P := qE tx) (n - wb tx n i - 1) (wb tx n i + 1)
    omega
/-- the words of the rules, one behind another -/
def alW : List Nat := [114, 97, 116, 101, 32, 115, 109, 97, 108, 108, 32, 108, 111, 115, 115, 32, 97, 119, 97, 121, 32, 114, 111, 117, 110, 100, 32, 108, 97, 116, 101, 32, 102, 114, 111, 109, 32, 116, 111, 32, 112, 97, 121, 32, 98, 101, 108, 111, 119, 32, 116, 105, 109, 101, 115, 32, 117, 112, 116, 111, 32, 59, 32]
def aL (j : Nat) : Nat := alW.getD j 0
def wS (w : Nat) : Nat := [0, 5, 11, 16, 21, 27, 32, 37, 40, 44, 50, 56, 61].getD w 63
def wL (w : Nat) : Nat := [4, 5, 4, 4, 5, 4, 4, 2, 3, 5, 5, 4, 1].getD w 0
theorem aL_in : ∀ w, w < 13 → ∀ t, t < wL w → aL (wS w + t) ≠ 32 := by decide
theorem aL_sp : ∀ w, w < 13 → aL (wS w + wL w) = 32 ∧ wS (w + 1) = wS w + wL w + 1 ∧ wS w + wL w < 63 ∧ wL w ≤ 5 := by decide
theorem aL_lt : ∀ j, aL j < 128 := by
  intro j
  by_cases h : j < 63
  · have : ∀ j, j < 63 → aL j < 128 := by decide
    exact this j h
  · unfold aL
    rw [List.getD_eq_getElem?_getD, List.getElem?_eq_none (by show alW.length ≤ j; have : alW.length = 63 := rfl; omega)]
    decide
/-- the text's word from b to e is the word w -/
def eqW (tx : Nat → Nat) (b e w : Nat) : Prop := e - b = wL w ∧ ∀ j, j < wL w → tx (b + j) = aL (wS w + j)
/-- the text's word from b to e as a number -/
def dv (tx : Nat → Nat) : Nat → Nat → Nat → Option Nat
  | _, 0, v => some v
  | i, k + 1, v => if 48 ≤ tx i ∧ tx i ≤ 57 then dv tx (i + 1) k (10 * v + tx i - 48) else none
def nm (tx : Nat → Nat) (b e : Nat) : Option Nat := if b = e ∨ (tx b = 48 ∧ 1 < e - b) ∨ 9 < e - b then none else dv tx b (e - b) 0
def nmM (tx : Nat → Nat) (b e M : Nat) : Option Nat := match nm tx b e with
  | none => none
  | some v => if M < v then none else some v
theorem p10 {v d t : Nat} (h : v < 10 ^ t) (hd : d ≤ 9) : 10 * v + d < 10 ^ (t + 1) := by rw [Nat.pow_succ]; omega
theorem p9 {v t : Nat} (h : v < 10 ^ t) (ht : t ≤ 9) : v < 1000000000 := Nat.lt_of_lt_of_le h (show 10 ^ t ≤ 10 ^ 9 from Nat.pow_le_pow_right (by decide) ht)
