/-! THE CLASS ITSELF -/
theorem kin_b {kd : Int32} (h : ¬ (if kd < 0 then (0 : Int32) else (if 6 ≤ kd then 0 else 1)) = 0) : ¬ (kd < 0 ∨ 6 ≤ kd) := rng_no h
theorem gv_n {ki : Nat} (h : ki < 6) : (if (nI ki).toInt = 0 then (9 : Int32) else (if (nI ki).toInt = 1 then 10000 else (if (nI ki).toInt = 2 then 1000000 else (if (nI ki).toInt = 3 then 100000000 else 1000000)))) = nI (mostN ki) := by
  rcases (show ki = 0 ∨ ki = 1 ∨ ki = 2 ∨ ki = 3 ∨ ki = 4 ∨ ki = 5 by omega) with rfl | rfl | rfl | rfl | rfl | rfl <;> decide
theorem day_1 {d : Nat} (h : d ≤ 100000) : (if lN d < 0 then (0 : Int32) else (if 100000 < lN d then 0 else 1)) = 1 := day_ok h (by decide)
theorem mon_1 {d : Nat} (h : d ≤ 3000) : (if nI d < 0 then (0 : Int32) else (if 3000 < nI d then 0 else 1)) = 1 := by
  rw [if_neg (nI_pos (by omega)), if_neg (show ¬ (3000 : Int32) < nI d from fun q => absurd ((n_lt (a := 3000) (b := d) (by omega) (by omega)).mp q) (by omega))]
theorem mon_bad {a : Int32} (h : a < 0 ∨ 3001 ≤ a) : (if a < 0 then (0 : Int32) else (if 3000 < a then 0 else 1)) = 0 := by
  by_cases h1 : a < 0
  · rw [if_pos h1]
  · have h2 := h.resolve_left h1
    rw [if_neg h1, if_pos]
    rw [Int32.lt_iff_toInt_lt]
    rw [Int32.le_iff_toInt_le] at h2
    have e1 : (3001 : Int32).toInt = 3001 := by decide
    have e2 : (3000 : Int32).toInt = 3000 := by decide
    omega
theorem par_bad {a : Int32} (h : a < 0 ∨ ¬ a ≤ 1) : (if a = 0 then (1 : Int32) else (if a = 1 then 1 else 0)) = 0 := by
  have h0 : ¬ a = 0 := fun q => by subst q; rcases h with h | h <;> revert h <;> decide
  have h1 : ¬ a = 1 := fun q => by subst q; rcases h with h | h <;> revert h <;> decide
  rw [if_neg h0, if_neg h1]
theorem par_01 {a : Int32} (h1 : ¬ a < 0) (h2 : a ≤ 1) : a = 0 ∨ a = 1 := by
  rw [Int32.lt_iff_toInt_lt, Int32.toInt_zero] at h1
  rw [Int32.le_iff_toInt_le] at h2
  have e1 : (1 : Int32).toInt = 1 := by decide
  rcases (show a.toInt = 0 ∨ a.toInt = 1 by omega) with h | h
  · exact Or.inl (Int32.toInt_inj.mp (by rw [h]; rfl))
  · exact Or.inr (Int32.toInt_inj.mp (by rw [h]; rfl))
theorem par_ok {a : Int32} (h : a = 0 ∨ a = 1) : (if a = 0 then (1 : Int32) else (if a = 1 then 1 else 0)) = 1 := by
  rcases h with rfl | rfl <;> decide
theorem ti_iff (a : Int32) (k : Int32) : a = k ↔ a.toInt = k.toInt := ⟨fun h => by rw [h], fun h => Int32.toInt_inj.mp h⟩
theorem ch_u {u : Nat} (h : u < 256) : ((nI u).toUInt32 % 65536).toInt32 = nI u := (sb_byte u h).2.1
theorem gtL_in {i : Nat} {L : List Nat} (h : i < L.length) (hl : L.length < 2 ^ 30) : gtL (nI i) L = nI (L.getD i 0) := by
  unfold gtL
  rw [if_neg (nI_pos (by omega)), nI_clamp (by omega), List.getD_eq_getElem?_getD, List.getElem?_eq_getElem h]
  rfl
theorem gtL_out {wi : Int32} {L : List Nat} (hl : L.length < 2 ^ 30) (h : wi < 0 ∨ nI L.length ≤ wi) : gtL wi L = -1 := by
  unfold gtL
  by_cases h0 : wi < 0
  · rw [if_pos h0]
  · obtain ⟨j, hj, rfl⟩ := nI_of h0
    have h2 := (n_le (by omega) hj).mp (h.resolve_left h0)
    rw [if_neg h0, nI_clamp hj, List.getElem?_eq_none h2]
theorem l_nlt {x y : Int64} (h : x ≤ y) : ¬ y < x := fun q => by
  rw [Int64.le_iff_toInt_le] at h
  rw [Int64.lt_iff_toInt_lt] at q
  omega
/-- the chain of the returns -/
def prv (pr : Nat → Nat) (n : Nat) : Option Nat := if n = 0 then none else some (pr (n - 1))
def cCh (G : gG) (h : fH) (nn : Nat) (pr pm : Nat → Nat) (th du : Nat → Nat) (chs : Nat → Nat → Int64) : Prop := (∀ i, i < nn → pm i ≤ 3000) ∧ (∀ i j, i < nn → j < nn → pm i = pm j → i = j) ∧ ∀ i, i < nn → cRt G h (pr i) i (pm i) (prv pr i) th du (chs i)
theorem cCh.keepF {G : gG} {h h' : fH} {S : Nat → Nat → Prop} {nn : Nat} {pr pm th du : Nat → Nat} {chs : Nat → Nat → Int64} (H : cCh G h nn pr pm th du chs) (hF : fF S h h') (hS : ∀ r o, 18 ≤ r → r ≤ 21 → ¬ S r o) : cCh G h' nn pr pm th du chs :=
  ⟨H.1, H.2.1, fun i hi => (H.2.2 i hi).keepF hF (fun r h1 h2 => hS r i h1 h2)⟩
def pmP (pm : Nat → Nat) (mo1 : Int32) (i : Nat) : Bool := decide (nI (pm i) = mo1)
theorem pm_lst {pm : Nat → Nat} {mn nn : Nat} (bm : mn ≤ 3000) (hb : ∀ i, i < nn → pm i ≤ 3000) : (lst (pmP pm (nI mn)) nn = none ↔ ∀ i, i < nn → pm i ≠ mn) ∧ ∀ i, lst (pmP pm (nI mn)) nn = some i → i < nn ∧ pm i = mn := by
  have key : ∀ i, i < nn → (pmP pm (nI mn) i = true ↔ pm i = mn) := fun i hi => by
    unfold pmP
    rw [decide_eq_true_eq]
    exact n_eq (by have := hb i hi; omega) (by omega)
  refine ⟨⟨fun h i hi q => lst_none h i hi ((key i hi).mpr q), fun h => ?_⟩, fun i h => ⟨(lst_in h).1, (key i (lst_in h).1).mp (lst_in h).2⟩⟩
  rcases e : lst (pmP pm (nI mn)) nn with _ | i
  · rfl
  · exact absurd ((key i (lst_in e).1).mp (lst_in e).2) (h i (lst_in e).1)
theorem pm_bad {pm : Nat → Nat} {mo1 : Int32} {nn : Nat} (hbad : mo1 < 0 ∨ 3001 ≤ mo1) (hb : ∀ i, i < nn → pm i ≤ 3000) : lst (pmP pm mo1) nn = none := by
  rcases e : lst (pmP pm mo1) nn with _ | i
  · rfl
  · have h1 := (lst_in e).2
    have h2 := hb i (lst_in e).1
    unfold pmP at h1
    rw [decide_eq_true_eq] at h1
    rcases hbad with q | q
    · rw [← h1] at q
      exact absurd q (nI_pos (by omega))
    · rw [← h1] at q
      exact absurd ((n_le (a := 3001) (b := pm i) (by omega) (by omega)).mp q) (by omega)
theorem eu_s {n a b : Nat} (h : ¬ b = 0) : eu (n + 1) a b = eu n b (a % b) := by rw [eu]; exact if_neg h
def cIn (G : gG) (h : fH) (I : Nat) : Prop := ∃ (lt rs : Int32) (hv : Nat → Int32) (d : dst), cDu G h I 1 lt rs hv d
theorem ld_n {mn : Nat} (h : mn ≤ 3000) : ((30 * nI mn) + 30) - 1 = nI (30 * mn + 29) := by
  have e1 : (30 : Int32) * nI mn = nI (30 * mn) := pk_mul 30 mn
  have e2 : nI (30 * mn) + 30 = nI (30 * mn + 30) := nI_add (30 * mn) 30
  rw [e1, e2]
  exact pk_sub (a := 30 * mn + 30) (b := 1) (by omega)
