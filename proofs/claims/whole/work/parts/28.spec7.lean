/-! places below n are copied -/
def cpk (f t : Nat → Nat) (n : Nat) : Nat → Nat := fun i => if i < n then f i else t i
theorem cpk_0 (f t : Nat → Nat) : cpk f t 0 = t := by
  funext i
  unfold cpk
  rw [if_neg (by omega)]
theorem cpk_lt {f t : Nat → Nat} {n i : Nat} (h : i < n) : cpk f t n i = f i := if_pos h
theorem cpk_i (f t : Nat → Nat) (n : Nat) : upd (fun i => nI (cpk f t n i)) n (nI (f n)) = fun i => nI (cpk f t (n + 1) i) := by
  funext i
  unfold upd cpk
  dsimp only
  by_cases hi : i = n
  · subst hi; rw [if_pos rfl, if_pos (by omega)]
  · rw [if_neg hi]
    by_cases h2 : i < n
    · rw [if_pos h2, if_pos (by omega)]
    · rw [if_neg h2, if_neg (by omega)]
theorem cpk_l (f t : Nat → Nat) (n : Nat) : vp_updL (fun i => lN (cpk f t n i)) n (lN (f n)) = fun i => lN (cpk f t (n + 1) i) := by
  funext i
  unfold vp_updL cpk
  dsimp only
  by_cases hi : i = n
  · subst hi; rw [if_pos rfl, if_pos (by omega)]
  · rw [if_neg hi]
    by_cases h2 : i < n
    · rw [if_pos h2, if_pos (by omega)]
    · rw [if_neg h2, if_neg (by omega)]
