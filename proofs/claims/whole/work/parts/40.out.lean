/-! WHAT IS WRITTEN: a text as a list of letters; the letter at a place -/
def gtL (i : Int32) (L : List Nat) : Int32 := if i < 0 then -1 else match L[i.toNatClampNeg]? with
  | some x => nI x
  | none => -1
theorem gtL_0 (i : Int32) : gtL i [] = -1 := by
  unfold gtL
  split
  · rfl
  · simp
theorem gtL_add {i : Int32} {L : List Nat} {x : Nat} (hl : L.length < 2 ^ 30) : gtL i (L ++ [x]) = if nI L.length = i then nI x else gtL i L := by
  by_cases h0 : i < 0
  · have h1 : ¬ nI L.length = i := fun q => nI_pos (n := L.length) (by omega) (by rw [q]; exact h0)
    rw [if_neg h1]
    unfold gtL
    rw [if_pos h0, if_pos h0]
  · obtain ⟨j, hj, rfl⟩ := nI_of h0
    unfold gtL
    rw [if_neg h0, if_neg h0, nI_clamp hj]
    by_cases h1 : L.length = j
    · subst h1
      rw [if_pos rfl, List.getElem?_append_right (Nat.le_refl _), Nat.sub_self]
      rfl
    · rw [if_neg (fun q => h1 ((n_eq (by omega) hj).mp q))]
      by_cases h2 : j < L.length
      · rw [List.getElem?_append_left h2]
      · rw [List.getElem?_append_right (by omega), List.getElem?_eq_none (by simp; omega), List.getElem?_eq_none (by omega)]
def mW (mf : Nat → Value) (wi : Int32) (L : List Nat) : Prop := mf 37 = .int wi ∧ mf 38 = .int (gtL wi L) ∧ mf 39 = .int (nI L.length)
def wDk (wd n : Nat) : List Nat := (List.range n).map (fun t => aL (wS wd + t))
def wD (wd : Nat) : List Nat := wDk wd (wL wd)
theorem wDk_s (wd n : Nat) : wDk wd (n + 1) = wDk wd n ++ [aL (wS wd + n)] := by simp [wDk, List.range_succ]
theorem wDk_l (wd n : Nat) : (wDk wd n).length = n := by simp [wDk]
theorem wL_le (w : Nat) : wL w ≤ 5 := by
  by_cases h : w < 13
  · exact (aL_sp w h).2.2.2
  · unfold wL
    rw [List.getD_eq_getElem?_getD, List.getElem?_eq_none (by simp; omega)]
    decide
def dGk (v n : Nat) : List Nat := (List.range n).map (sb_dec v)
def dG (v : Nat) : List Nat := dGk v (sb_dg v)
theorem dGk_s (v n : Nat) : dGk v (n + 1) = dGk v n ++ [sb_dec v n] := by simp [dGk, List.range_succ]
theorem dGk_l (v n : Nat) : (dGk v n).length = n := by simp [dGk]
theorem dg_pow {v : Nat} (h : v < 1000000000) : v < 10 ^ sb_dg v ∧ (1 < sb_dg v → 10 ^ (sb_dg v - 1) ≤ v) ∧ 1 ≤ sb_dg v ∧ sb_dg v ≤ 9 := by
  rcases (show v < 10 ∨ (10 ≤ v ∧ v < 100) ∨ (100 ≤ v ∧ v < 1000) ∨ (1000 ≤ v ∧ v < 10000) ∨ (10000 ≤ v ∧ v < 100000) ∨ (100000 ≤ v ∧ v < 1000000) ∨ (1000000 ≤ v ∧ v < 10000000) ∨ (10000000 ≤ v ∧ v < 100000000) ∨ (100000000 ≤ v ∧ v < 1000000000) by omega) with q | q | q | q | q | q | q | q | q
  · rw [show sb_dg v = 1 by unfold sb_dg; rw [if_pos q]]; omega
  · rw [show sb_dg v = 2 by unfold sb_dg; rw [if_neg (by omega), if_pos (by omega)]]; omega
  · rw [show sb_dg v = 3 by unfold sb_dg; rw [if_neg (by omega), if_neg (by omega), if_pos (by omega)]]; omega
  · rw [show sb_dg v = 4 by unfold sb_dg; rw [if_neg (by omega), if_neg (by omega), if_neg (by omega), if_pos (by omega)]]; omega
  · rw [show sb_dg v = 5 by unfold sb_dg; rw [if_neg (by omega), if_neg (by omega), if_neg (by omega), if_neg (by omega), if_pos (by omega)]]; omega
  · rw [show sb_dg v = 6 by unfold sb_dg; rw [if_neg (by omega), if_neg (by omega), if_neg (by omega), if_neg (by omega), if_neg (by omega), if_pos (by omega)]]; omega
  · rw [show sb_dg v = 7 by unfold sb_dg; rw [if_neg (by omega), if_neg (by omega), if_neg (by omega), if_neg (by omega), if_neg (by omega), if_neg (by omega), if_pos (by omega)]]; omega
  · rw [show sb_dg v = 8 by unfold sb_dg; rw [if_neg (by omega), if_neg (by omega), if_neg (by omega), if_neg (by omega), if_neg (by omega), if_neg (by omega), if_neg (by omega), if_pos (by omega)]]; omega
  · rw [show sb_dg v = 9 by unfold sb_dg; rw [if_neg (by omega), if_neg (by omega), if_neg (by omega), if_neg (by omega), if_neg (by omega), if_neg (by omega), if_neg (by omega), if_neg (by omega), if_pos (by omega)]]; omega
theorem p10_0 (t : Nat) : 0 < 10 ^ t := Nat.pow_pos (by decide)
theorem p10_8 {t : Nat} (h : t ≤ 8) : 10 ^ t ≤ 100000000 := show 10 ^ t ≤ 10 ^ 8 from Nat.pow_le_pow_right (by decide) h
theorem dg_t {v t : Nat} (h : v < 1000000000) : 9 < v / 10 ^ t ↔ t + 1 < sb_dg v := by
  obtain ⟨h1, h2, h3, h4⟩ := dg_pow h
  have e1 : 9 < v / 10 ^ t ↔ 10 ^ (t + 1) ≤ v := by
    rw [Nat.pow_succ, Nat.mul_comm]
    exact Nat.le_div_iff_mul_le (p10_0 t)
  rw [e1]
  constructor
  · intro q
    exact (Nat.pow_lt_pow_iff_right (by decide)).mp (Nat.lt_of_le_of_lt q h1)
  · intro q
    exact Nat.le_trans (Nat.pow_le_pow_right (by decide) (by omega)) (h2 (by omega))
/-- a rule's rest as it is written -/
def ob : List (Nat ⊕ Nat) → List Nat → List Nat
  | .inr x :: ps, vs => if x = 12 then [59, 10] else 32 :: (wD x ++ ob ps vs)
  | .inl _ :: ps, v :: vs => 32 :: (dG v ++ ob ps vs)
  | _, _ => []
def ln (r : rlT) : List Nat := wD r.1 ++ ob (pl r.1) r.2
def ot (L : List rlT) : List Nat := L.flatMap ln
theorem ob_len : ∀ (ps : List (Nat ⊕ Nat)) (vs : List Nat), (ob ps vs).length ≤ 11 * ps.length
  | [], vs => by simp [ob]
  | .inr x :: ps, vs => by
    rw [ob]
    have h1 := ob_len ps vs
    have h2 := wL_le x
    split
    · simp; omega
    · simp [wD, wDk_l]; omega
  | .inl M :: ps, [] => by simp [ob]
  | .inl M :: ps, v :: vs => by
    rw [ob]
    have h1 := ob_len ps vs
    have h2 := (sb_dg_in v).2
    simp [dG, dGk_l]
    omega
theorem ln_len {r : rlT} (h : r.1 < 6) : (ln r).length ≤ 100 := by
  have h1 := ob_len (pl r.1) r.2
  have h2 := wL_le r.1
  have h3 := (plg_ok r.1 h).1
  have h4 : plL r.1 = (pl r.1).length := rfl
  simp [ln, wD, wDk_l]
  omega
theorem ot_len : ∀ (L : List rlT), (∀ r ∈ L, wfR r) → (ot L).length ≤ 100 * L.length
  | [], _ => by simp [ot]
  | r :: L, h => by
    have h1 := ot_len L (fun q hq => h q (List.mem_cons_of_mem _ hq))
    have h2 := ln_len (h r List.mem_cons_self).1
    simp [ot] at h1 ⊢
    omega
theorem ot_take {L : List rlT} {n : Nat} {r : rlT} (h : L[n]? = some r) : ot (L.take (n + 1)) = ot (L.take n) ++ ln r := by
  unfold ot
  rw [List.take_succ, h]
  simp
theorem ob_w {x : Nat} {ps : List (Nat ⊕ Nat)} {vs : List Nat} (h : ¬ x = 12) : ob (.inr x :: ps) vs = 32 :: (wD x ++ ob ps vs) := by rw [ob]; exact if_neg h
theorem ob_12 {ps : List (Nat ⊕ Nat)} {vs : List Nat} : ob (.inr 12 :: ps) vs = [59, 10] := by rw [ob]; exact if_pos rfl
theorem drop_v {vs : List Nat} {k : Nat} (h : k < vs.length) : vs.drop k = vs.getD k 0 :: vs.drop (k + 1) := by
  rw [List.drop_eq_getElem_cons h, List.getD_eq_getElem?_getD, List.getElem?_eq_getElem h]
  rfl
theorem pv_l {M : Nat} (h : M < 2 ^ 31) : ¬ pv (.inl M) = -112 := fun q => by
  have h1 := congrArg Int32.toInt q
  rw [show pv (.inl M) = nI M from rfl, nI_toInt h] at h1
  have h2 : ((-112 : Int32)).toInt = -112 := by decide
  omega
