/-! the other groups of the reference's state -/
def mTx (G : gG) (h : fH) (mf : Nat → Value) (tn : Nat) (tx : Nat → Nat) : Prop :=
  ∃ a0 : Nat, (mf 0 = .ref a0 ∧ mf 1 = .int (nI tn)) ∧ h a0 = some (41, 0, .inl (G.2.1 0, 2000, .inl (fun i => nI (tx i)))) ∧ tn ≤ 2000 ∧ ∀ i, tx i ≤ 127
def mSh (G : gG) (h : fH) (mf : Nat → Value) (sL sR : Int32) (L : List (Nat × Nat × Nat)) : Prop :=
  ∃ (a24 a25 a26 : Nat) (sl sr sc : Nat → Nat), (mf 21 = .int sL ∧ mf 22 = .int sR ∧ mf 23 = .int (nI L.length) ∧ mf 24 = .ref a24 ∧ mf 25 = .ref a25 ∧ mf 26 = .ref a26) ∧
  (h a24 = some (65, 0, .inl (G.2.1 0, 5, .inl (fun i => nI (sl i)))) ∧ h a25 = some (66, 0, .inl (G.2.1 0, 5, .inl (fun i => nI (sr i)))) ∧ h a26 = some (67, 0, .inl (G.2.1 1, 5, .inr (.inl (fun i => lN (sc i)))))) ∧
  L.length ≤ 5 ∧ ∀ (i : Nat) (q : Nat × Nat × Nat), L[i]? = some q → sl i = q.1 ∧ sr i = q.2.1 ∧ sc i = q.2.2
theorem mTx.keep {G : gG} {h h' : fH} {mf mf' : Nat → Value} {tn : Nat} {tx : Nat → Nat} {S : List Nat} (H : mTx G h mf tn tx) (hm : ∀ j, 0 ≤ j → j ≤ 1 → mf' j = mf j) (hF : fF (inR S) h h') (hS : S.all (fun r => decide (r < 41 ∨ 41 < r)) = true) : mTx G h' mf' tn tx := by
  have hs : ¬ 41 ∈ S := fun hr => by have := List.all_eq_true.mp hS 41 hr; simp at this
  obtain ⟨a0, ⟨v0, v1⟩, g0, b⟩ := H
  exact ⟨a0, ⟨by rw [hm 0 (by decide) (by decide)]; exact v0, by rw [hm 1 (by decide) (by decide)]; exact v1⟩, hF _ _ _ _ g0 hs, b⟩
theorem mSh.keep {G : gG} {h h' : fH} {mf mf' : Nat → Value} {sL sR : Int32} {L : List (Nat × Nat × Nat)} {S : List Nat} (H : mSh G h mf sL sR L) (hm : ∀ j, 21 ≤ j → j ≤ 26 → mf' j = mf j) (hF : fF (inR S) h h') (hS : S.all (fun r => decide (r < 65 ∨ 67 < r)) = true) : mSh G h' mf' sL sR L := by
  have hs : ∀ r, 65 ≤ r → r ≤ 67 → ¬ r ∈ S := fun r h1 h2 hr => by have := List.all_eq_true.mp hS r hr; simp only [decide_eq_true_eq] at this; omega
  obtain ⟨a24, a25, a26, sl, sr, sc, ⟨v1, v2, v3, v4, v5, v6⟩, ⟨g1, g2, g3⟩, b⟩ := H
  exact ⟨a24, a25, a26, sl, sr, sc, ⟨by rw [hm 21 (by decide) (by decide)]; exact v1, by rw [hm 22 (by decide) (by decide)]; exact v2, by rw [hm 23 (by decide) (by decide)]; exact v3, by rw [hm 24 (by decide) (by decide)]; exact v4, by rw [hm 25 (by decide) (by decide)]; exact v5, by rw [hm 26 (by decide) (by decide)]; exact v6⟩,
    ⟨hF _ _ _ _ g1 (hs _ (by decide) (by decide)), hF _ _ _ _ g2 (hs _ (by decide) (by decide)), hF _ _ _ _ g3 (hs _ (by decide) (by decide))⟩, b⟩
theorem rng_bad {a N : Int32} (h : a < 0 ∨ N ≤ a) : (if a < 0 then (0 : Int32) else (if N ≤ a then 0 else 1)) = 0 := by
  by_cases h1 : a < 0
  · rw [if_pos h1]
  · rw [if_neg h1, if_pos (h.resolve_left h1)]
theorem rng_ok {a N : Int32} (h1 : ¬ a < 0) (h2 : ¬ N ≤ a) : (if a < 0 then (0 : Int32) else (if N ≤ a then 0 else 1)) = 1 := by rw [if_neg h1, if_neg h2]
theorem rng_no {a N : Int32} (h : ¬ (if a < 0 then (0 : Int32) else (if N ≤ a then 0 else 1)) = 0) : ¬ (a < 0 ∨ N ≤ a) := fun q => h (rng_bad q)
theorem day_bad {a N : Int64} (h : a < 0 ∨ N < a) : (if a < 0 then (0 : Int32) else (if N < a then 0 else 1)) = 0 := by
  by_cases h1 : a < 0
  · rw [if_pos h1]
  · rw [if_neg h1, if_pos (h.resolve_left h1)]
theorem day_ok {d n : Nat} (h : d ≤ n) (hn : n < 2 ^ 63) : (if lN d < 0 then (0 : Int32) else (if lN n < lN d then 0 else 1)) = 1 := by
  show (if lN d < lN 0 then (0 : Int32) else (if lN n < lN d then 0 else 1)) = 1
  rw [if_neg (fun q => absurd ((pk_lLT (a := d) (b := 0) (by omega) (by decide)).mp q) (by omega)), if_neg (fun q => absurd ((pk_lLT (a := n) (b := d) hn (by omega)).mp q) (by omega))]
theorem day_no {a N : Int64} (h : ¬ (if a < 0 then (0 : Int32) else (if N < a then 0 else 1)) = 0) : ¬ (a < 0 ∨ N < a) := fun q => h (day_bad q)
