/-! interest -/
def lateH (ne : Nat) (ef rr rm : Nat → Nat) (day : Nat) : Nat := match eo ef day ne with
  | none => 0
  | some e => match ff (fp rr e 5 0 0) 0 (rm e) with
    | none => 0
    | some r => rr ((e * 40 + r) * 5 + 1)
def frA (X B : Nat) (pt : Int32) : Int64 := if pt = 0 then lN (X / Nat.gcd X B) else lN (B / Nat.gcd X B)
theorem pt_fr {pt : Int32} (h : pt = 0 ∨ pt = 1) : pt.toInt64 = frA 0 100 pt := by
  rcases h with rfl | rfl <;> decide
/-- the due cents of a month's rows that are not open -/
def duN (th du : Nat → Nat) (mn l : Nat) : Nat := if th (mn * 30 + l) = 1 then du (mn * 30 + l) else 0
theorem duN_le {th du : Nat → Nat} (h : ∀ i, du i ≤ 1000000000) (mn l : Nat) : duN th du mn l ≤ 1000000000 := by
  unfold duN
  split
  · exact h _
  · exact Nat.zero_le _
