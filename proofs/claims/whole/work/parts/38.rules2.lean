/-! what was read, laid behind the editions -/
def cpx (rr rg : Nat → Nat) (n : Nat) : Nat → Nat := fun j => if 2000 ≤ j ∧ j < 2000 + n then rg (j - 2000) else rr j
theorem cpx_0 (rr rg : Nat → Nat) : cpx rr rg 0 = rr := by
  funext j
  unfold cpx
  rw [if_neg (by omega)]
theorem cpx_up (rr rg : Nat → Nat) (n : Nat) : upd (fun j => nI (cpx rr rg n j)) (2000 + n) (nI (rg n)) = fun j => nI (cpx rr rg (n + 1) j) := by
  funext j
  unfold upd cpx
  dsimp only
  by_cases hj : j = 2000 + n
  · subst hj
    rw [if_pos rfl, if_pos (by omega), show 2000 + n - 2000 = n by omega]
  · rw [if_neg hj]
    by_cases h2 : 2000 ≤ j ∧ j < 2000 + n
    · rw [if_pos h2, if_pos (by omega)]
    · rw [if_neg h2, if_neg (by omega)]
theorem cpx_le {rr rg : Nat → Nat} {M : Nat} (h1 : ∀ i, rr i ≤ M) (h2 : ∀ i, rg i ≤ M) (n : Nat) : ∀ i, cpx rr rg n i ≤ M := by
  intro i
  unfold cpx
  split
  · exact h2 _
  · exact h1 _
theorem cpx_lo {rr rg : Nat → Nat} {n i : Nat} (h : i < 2000) : cpx rr rg n i = rr i := by
  unfold cpx
  rw [if_neg (by omega)]
theorem cpx_in {rr rg : Nat → Nat} {n i : Nat} (h : i < n) : cpx rr rg n (2000 + i) = rg i := by
  unfold cpx
  rw [if_pos (by omega), show 2000 + i - 2000 = i by omega]
theorem rep5_cpx {rr rg : Nat → Nat} {L : List rlT} (h : rep5 rg L) : rep5 (fun i => cpx rr rg (5 * L.length) (2000 + i)) L := by
  intro j r hj
  obtain ⟨h1, h2, h3⟩ := h j r hj
  have hl := (List.getElem?_eq_some_iff.mp hj).1
  have h4 := wfR_4 h3
  exact ⟨by show cpx _ _ _ _ = _; rw [cpx_in (by omega)]; exact h1, fun i hi => by show cpx _ _ _ _ = _; rw [cpx_in (by omega)]; exact h2 i hi, h3⟩
theorem okR_rep {f : Nat → Nat} {L : List rlT} {n : Nat} (h : rep5 f L) (hn : n < L.length) : okR (f (5 * n)) (f (5 * n + 1)) (f (5 * n + 2)) (f (5 * n + 3)) (f (5 * n + 4)) := by
  obtain ⟨h1, h2, h3, h4, h5⟩ := h n L[n] (List.getElem?_eq_getElem hn)
  generalize L[n] = r at *
  obtain ⟨K, vs⟩ := r
  dsimp only at h1 h2 h3 h4 h5
  rw [h1]
  rw [h4] at h2
  rcases (show K = 0 ∨ K = 1 ∨ K = 2 ∨ K = 3 ∨ K = 4 ∨ K = 5 by omega) with rfl | rfl | rfl | rfl | rfl | rfl
  · have q0 := h2 0 (by decide); have q1 := h2 1 (by decide); have q2 := h2 2 (by decide); have q3 := h2 3 (by decide)
    simp only [Nat.zero_add, Nat.reduceAdd] at q0 q1 q2 q3
    unfold okR at h5 ⊢; rw [q0, q1, q2, q3]; exact h5
  · have q0 := h2 0 (by decide); have q1 := h2 1 (by decide); have q2 := h2 2 (by decide)
    simp only [Nat.zero_add, Nat.reduceAdd] at q0 q1 q2
    unfold okR at h5 ⊢; rw [q0, q1, q2]; omega
  · have q0 := h2 0 (by decide); have q1 := h2 1 (by decide)
    simp only [Nat.zero_add, Nat.reduceAdd] at q0 q1
    unfold okR at h5 ⊢; rw [q0, q1]; omega
  · have q0 := h2 0 (by decide); have q1 := h2 1 (by decide)
    simp only [Nat.zero_add, Nat.reduceAdd] at q0 q1
    unfold okR at h5 ⊢; rw [q0, q1]; omega
  · have q0 := h2 0 (by decide)
    simp only [Nat.zero_add] at q0
    unfold okR at h5 ⊢; rw [q0]; omega
  · have q0 := h2 0 (by decide)
    simp only [Nat.zero_add] at q0
    unfold okR at h5 ⊢; rw [q0]; omega
theorem okR_cpx {rr rg rm : Nat → Nat} {L : List rlT} (h : rep5 rg L) (bL : L.length ≤ 40) (brm : ∀ i, rm i ≤ 40) (hk : ∀ e n, e < 11 → n < rm e → okR (rr ((e * 40 + n) * 5)) (rr ((e * 40 + n) * 5 + 1)) (rr ((e * 40 + n) * 5 + 2)) (rr ((e * 40 + n) * 5 + 3)) (rr ((e * 40 + n) * 5 + 4))) :
    ∀ e n, e < 11 → n < va_up rm 10 L.length e → okR (cpx rr rg (5 * L.length) ((e * 40 + n) * 5)) (cpx rr rg (5 * L.length) ((e * 40 + n) * 5 + 1)) (cpx rr rg (5 * L.length) ((e * 40 + n) * 5 + 2)) (cpx rr rg (5 * L.length) ((e * 40 + n) * 5 + 3)) (cpx rr rg (5 * L.length) ((e * 40 + n) * 5 + 4)) := by
  intro e n he hn
  by_cases h10 : e = 10
  · subst h10
    rw [va_up_self] at hn
    have h1 := okR_rep (rep5_cpx (rr := rr) h) hn
    have e0 : (10 * 40 + n) * 5 = 2000 + 5 * n := by omega
    rw [e0]
    exact h1
  · rw [va_up_ne _ _ h10] at hn
    have h1 := brm e
    have h2 := hk e n he hn
    rw [cpx_lo (by omega), cpx_lo (by omega), cpx_lo (by omega), cpx_lo (by omega), cpx_lo (by omega)]
    exact h2
