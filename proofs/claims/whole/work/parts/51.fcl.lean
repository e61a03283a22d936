/-! THE CLASS'S FACTS: a chain for each lot and kind -/
def lQ (fl fk : Nat → Nat) (lot kind f : Nat) : Bool := decide (fl f = lot ∧ fk f = kind)
theorem lst_gap {P : Nat → Bool} : ∀ {n j : Nat}, lst P n = some j → ∀ i, j < i → i < n → ¬ P i = true
  | 0, j, h => by cases h
  | n + 1, j, h => by
    intro i h1 h2
    by_cases hp : P n = true
    · have e1 : lst P (n + 1) = some n := if_pos hp
      rw [e1] at h
      cases h
      omega
    · have e1 : lst P (n + 1) = lst P n := if_neg hp
      rw [e1] at h
      by_cases hi : i = n
      · rw [hi]; exact hp
      · exact lst_gap h i h1 (by omega)
theorem lst_none {P : Nat → Bool} : ∀ {n : Nat}, lst P n = none → ∀ i, i < n → ¬ P i = true
  | 0, _ => fun i hi => absurd hi (Nat.not_lt_zero i)
  | n + 1, h => by
    intro i h2
    by_cases hp : P n = true
    · have e1 : lst P (n + 1) = some n := if_pos hp
      rw [e1] at h
      cases h
    · have e1 : lst P (n + 1) = lst P n := if_neg hp
      rw [e1] at h
      by_cases hi : i = n
      · rw [hi]; exact hp
      · exact lst_none h i (by omega)
theorem lst_congr {P P' : Nat → Bool} : ∀ {n : Nat}, (∀ i, i < n → P i = P' i) → lst P n = lst P' n
  | 0, _ => rfl
  | n + 1, h => by
    unfold lst
    rw [h n (by omega), lst_congr (fun i hi => h i (by omega))]
theorem hk_gap {fl fk fd fw : Nat → Nat} {lot kind day on j : Nat} : ∀ {n : Nat}, j ≤ n → (∀ i, j ≤ i → i < n → ¬ lQ fl fk lot kind i = true) → hk fl fk fd fw lot kind day on n = hk fl fk fd fw lot kind day on j
  | 0, h, _ => by rw [show j = 0 by omega]
  | n + 1, h, hn => by
    by_cases e : j = n + 1
    · rw [e]
    · rw [hk_no (fun q => hn n (by omega) (by omega) (by simp only [lQ, decide_eq_true_eq]; exact ⟨q.1, q.2.1⟩))]
      exact hk_gap (by omega) (fun i h1 h2 => hn i h1 (by omega))
theorem hk_step {fl fk fd fw : Nat → Nat} {lot kind day on n j : Nat} (h : lst (lQ fl fk lot kind) n = some j) : hk fl fk fd fw lot kind day on n = hk fl fk fd fw lot kind day on (j + 1) :=
  hk_gap (by have := (lst_in h).1; omega) (fun i h1 h2 => lst_gap h i (by omega) h2)
theorem hk_end {fl fk fd fw : Nat → Nat} {lot kind day on n : Nat} (h : lst (lQ fl fk lot kind) n = none) : hk fl fk fd fw lot kind day on n = 0 :=
  (hk_gap (j := 0) (Nat.zero_le _) (fun i _ h2 => lst_none h i h2)).trans rfl
theorem hLt_gap {fl fk fd : Nat → Nat} {lot mn j : Nat} : ∀ {n : Nat}, j ≤ n → (∀ i, j ≤ i → i < n → ¬ lQ fl fk lot 2 i = true) → hLt fl fk fd lot mn n = hLt fl fk fd lot mn j
  | 0, h, _ => by rw [show j = 0 by omega]
  | n + 1, h, hn => by
    by_cases e : j = n + 1
    · rw [e]
    · have h1 : ¬ (fl n = lot ∧ fk n = 2 ∧ fd n / 30 = mn) := fun q => hn n (by omega) (by omega) (by simp only [lQ, decide_eq_true_eq]; exact ⟨q.1, q.2.1⟩)
      show (hLt fl fk fd lot mn n || decide _) = _
      rw [decide_eq_false h1, Bool.or_false]
      exact hLt_gap (by omega) (fun i h1 h2 => hn i h1 (by omega))
theorem hLt_step {fl fk fd : Nat → Nat} {lot mn n j : Nat} (h : lst (lQ fl fk lot 2) n = some j) : hLt fl fk fd lot mn n = hLt fl fk fd lot mn (j + 1) :=
  hLt_gap (by have := (lst_in h).1; omega) (fun i h1 h2 => lst_gap h i (by omega) h2)
theorem hLt_end {fl fk fd : Nat → Nat} {lot mn n : Nat} (h : lst (lQ fl fk lot 2) n = none) : hLt fl fk fd lot mn n = false :=
  (hLt_gap (j := 0) (Nat.zero_le _) (fun i _ h2 => lst_none h i h2)).trans rfl
/-- the facts' object, its array, the facts -/
def fcc (fl fk fd fw fv fa : Nat → Nat) (i : Nat) : fC := (12, i, .inr (3, [.int (nI (fd i)), .int (nI (fv i)), va_rf ((lst (lQ fl fk (fl i) (fk i)) i).map fa), .int (nI (fw i))]))
def cFo (G : gG) (h : fH) (F A : Nat) (fa : Nat → Nat) (gq : Nat → Option Nat) (nf la : Nat) (fl fk fd fw fv : Nat → Nat) : Prop :=
  h F = some (10, 0, .inr (4, [.int (nI nf), .int (nI la), .ref A])) ∧ h A = some (11, 0, .inl (G.2.1 5, 180, .inr (.inr (.inr (.inr gq))))) ∧
  (∀ lot kind, lot < 30 → kind < 6 → gq (lot * 6 + kind) = (lst (lQ fl fk lot kind) nf).map fa) ∧ (∀ i, i < nf → h (fa i) = some (fcc fl fk fd fw fv fa i)) ∧
  nf ≤ 300 ∧ la ≤ 100000 ∧ (∀ i, fl i < 30) ∧ (∀ i, fk i < 6) ∧ (∀ i, fd i ≤ 100000) ∧ (∀ i, fw i ≤ 100000) ∧ ∀ i, fv i ≤ 100000000
theorem cFo.keepF {G : gG} {h h' : fH} {F A : Nat} {fa : Nat → Nat} {gq : Nat → Option Nat} {nf la : Nat} {fl fk fd fw fv : Nat → Nat} {S : List Nat} (H : cFo G h F A fa gq nf la fl fk fd fw fv) (hF : fF (inR S) h h') (h1 : ¬ 10 ∈ S) (h2 : ¬ 11 ∈ S) (h3 : ¬ 12 ∈ S) : cFo G h' F A fa gq nf la fl fk fd fw fv :=
  ⟨hF _ _ _ _ H.1 h1, hF _ _ _ _ H.2.1 h2, H.2.2.1, fun i hi => hF _ _ _ _ (H.2.2.2.1 i hi) h3, H.2.2.2.2⟩
def inO (r0 o0 : Nat) : Nat → Nat → Prop := fun r o => r = r0 ∧ o = o0
theorem lot_1 {lot : Nat} (hl : lot < 30) : (if nI lot < 0 then (0 : Int32) else (if 30 ≤ nI lot then 0 else 1)) = 1 := by
  rw [if_neg (nI_pos (by omega)), if_neg (fun q => absurd ((n_le (a := 30) (b := lot) (by omega) (by omega)).mp q) (by omega))]
theorem kin_1 {kind : Nat} (hl : kind < 6) : (if nI kind < 0 then (0 : Int32) else (if 6 ≤ nI kind then 0 else 1)) = 1 := by
  rw [if_neg (nI_pos (by omega)), if_neg (fun q => absurd ((n_le (a := 6) (b := kind) (by omega) (by omega)).mp q) (by omega))]
/-- the fact met last on the way down the chain that holds by now -/
def hdK (fd : Nat → Nat) : Option Nat → Nat
  | none => 0
  | some i => kK fd i
theorem hd_no {fl fk fd fw : Nat → Nat} {lot kind day on nf n j : Nat} {hd : Option Nat} (hi : hk fl fk fd fw lot kind day on nf = max (hk fl fk fd fw lot kind day on n) (hdK fd hd)) (h : lst (lQ fl fk lot kind) n = some j) (hn : ¬ hM fl fk fd fw lot kind day on j) : hk fl fk fd fw lot kind day on nf = max (hk fl fk fd fw lot kind day on j) (hdK fd hd) := by rw [hi, hk_step h, hk_no hn]
theorem hd_le {fl fk fd fw : Nat → Nat} {lot kind day on nf n j : Nat} {hd : Option Nat} (hi : hk fl fk fd fw lot kind day on nf = max (hk fl fk fd fw lot kind day on n) (hdK fd hd)) (h : lst (lQ fl fk lot kind) n = some j) (hm : hM fl fk fd fw lot kind day on j) (hn : kK fd j ≤ hdK fd hd) : hk fl fk fd fw lot kind day on nf = max (hk fl fk fd fw lot kind day on j) (hdK fd hd) := by rw [hi, hk_step h, hk_yes hm]; omega
theorem hd_gt {fl fk fd fw : Nat → Nat} {lot kind day on nf n j : Nat} {hd : Option Nat} (hi : hk fl fk fd fw lot kind day on nf = max (hk fl fk fd fw lot kind day on n) (hdK fd hd)) (h : lst (lQ fl fk lot kind) n = some j) (hm : hM fl fk fd fw lot kind day on j) (hn : hdK fd hd ≤ kK fd j) : hk fl fk fd fw lot kind day on nf = max (hk fl fk fd fw lot kind day on j) (hdK fd (some j)) := by
  rw [hi, hk_step h, hk_yes hm]
  show _ = max _ (kK fd j)
  omega
