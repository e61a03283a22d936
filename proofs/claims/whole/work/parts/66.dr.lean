/-! THE CLASS ITSELF -/
theorem kin_b {kd : Int32} (h : ¬ (if kd < 0 then (0 : Int32) else (if 6 ≤ kd then 0 else 1)) = 0) : ¬ (kd < 0 ∨ 6 ≤ kd) := rng_no h
theorem gv_n {ki : Nat} (h : ki < 6) : (if (nI ki).toInt = 0 then (9 : Int32) else (if (nI ki).toInt = 1 then 10000 else (if (nI ki).toInt = 2 then 1000000 else (if (nI ki).toInt = 3 then 100000000 else 1000000)))) = nI (mostN ki) := by
  rcases (show ki = 0 ∨ ki = 1 ∨ ki = 2 ∨ ki = 3 ∨ ki = 4 ∨ ki = 5 by omega) with rfl | rfl | rfl | rfl | rfl | rfl <;> decide
theorem day_1 {d : Nat} (h : d ≤ 100000) : (if lN d < 0 then (0 : Int32) else (if 100000 < lN d then 0 else 1)) = 1 := day_ok h (by decide)
theorem mon_1 {d : Nat} (h : d ≤ 3000) : (if nI d < 0 then (0 : Int32) else (if 3000 < nI d then 0 else 1)) = 1 := by
  rw [if_neg (nI_pos (by omega)), if_neg (show ¬ (3000 : Int32) < nI d from fun q => absurd ((n_lt (a := 3000) (b := d) (by omega) (by omega)).mp q) (by omega))]
theorem mon_bad {a : Int32} (h : a < 0 ∨ 3001 ≤ a) : (if a < 0 then (0 : Int32) else (if 3000 < a then 0 else 1)) = 0 := by
  by_cases h1 : a < 0
  · rw [if_pos h1]
  · have h2 := h.resolve_left h1
    rw [if_neg h1, if_pos]
    rw [Int32.lt_iff_toInt_lt]
    rw [Int32.le_iff_toInt_le] at h2
    have e1 : (3001 : Int32).toInt = 3001 := by decide
    have e2 : (3000 : Int32).toInt = 3000 := by decide
    omega
theorem par_bad {a : Int32} (h : a < 0 ∨ ¬ a ≤ 1) : (if a = 0 then (1 : Int32) else (if a = 1 then 1 else 0)) = 0 := by
  have h0 : ¬ a = 0 := fun q => by subst q; rcases h with h | h <;> revert h <;> decide
  have h1 : ¬ a = 1 := fun q => by subst q; rcases h with h | h <;> revert h <;> decide
  rw [if_neg h0, if_neg h1]
theorem par_01 {a : Int32} (h1 : ¬ a < 0) (h2 : a ≤ 1) : a = 0 ∨ a = 1 := by
  rw [Int32.lt_iff_toInt_lt, Int32.toInt_zero] at h1
  rw [Int32.le_iff_toInt_le] at h2
  have e1 : (1 : Int32).toInt = 1 := by decide
  rcases (show a.toInt = 0 ∨ a.toInt = 1 by omega) with h | h
  · exact Or.inl (Int32.toInt_inj.mp (by rw [h]; rfl))
  · exact Or.inr (Int32.toInt_inj.mp (by rw [h]; rfl))
theorem par_ok {a : Int32} (h : a = 0 ∨ a = 1) : (if a = 0 then (1 : Int32) else (if a = 1 then 1 else 0)) = 1 := by
  rcases h with rfl | rfl <;> decide
theorem ti_iff (a : Int32) (k : Int32) : a = k ↔ a.toInt = k.toInt := ⟨fun h => by rw [h], fun h => Int32.toInt_inj.mp h⟩
theorem ch_u {u : Nat} (h : u < 256) : ((nI u).toUInt32 % 65536).toInt32 = nI u := (sb_byte u h).2.1
theorem gtL_in {i : Nat} {L : List Nat} (h : i < L.length) (hl : L.length < 2 ^ 30) : gtL (nI i) L = nI (L.getD i 0) := by
  unfold gtL
  rw [if_neg (nI_pos (by omega)), nI_clamp (by omega), List.getD_eq_getElem?_getD, List.getElem?_eq_getElem h]
  rfl
theorem gtL_out {wi : Int32} {L : List Nat} (hl : L.length < 2 ^ 30) (h : wi < 0 ∨ nI L.length ≤ wi) : gtL wi L = -1 := by
  unfold gtL
  by_cases h0 : wi < 0
  · rw [if_pos h0]
  · obtain ⟨j, hj, rfl⟩ := nI_of h0
    have h2 := (n_le (by omega) hj).mp (h.resolve_left h0)
    rw [if_neg h0, nI_clamp hj, List.getElem?_eq_none h2]
theorem l_nlt {x y : Int64} (h : x ≤ y) : ¬ y < x := fun q => by
  rw [Int64.le_iff_toInt_le] at h
  rw [Int64.lt_iff_toInt_lt] at q
  omega
