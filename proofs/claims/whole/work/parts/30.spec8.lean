/-! a return: lot by lot -/
abbrev rts : Type := (Nat → Nat) × (Nat → Nat) × Nat × (Nat → Nat) × (Nat → Int64) × (Nat → Int64)
def rtA (mn l c : Nat) (b : Bool) (s : rts) : rts := (va_up (va_up s.1 (mn * 30 + l) 0) (mn * 30 + l) (if b = true then 1 else 2), va_up s.2.1 (mn * 30 + l) c, s.2.2.1 + 1, va_up s.2.2.2.1 s.2.2.1 l, vp_updL s.2.2.2.2.1 s.2.2.1 (if b = true then lN c else -9223372036854775808), vp_updL s.2.2.2.2.2 s.2.2.1 (if b = true then (if s.1 (mn * 30 + l) = 1 then lN c - lN (s.2.1 (mn * 30 + l)) else 0) else 0))
def rtB (mn l : Nat) (s : rts) : rts := (va_up s.1 (mn * 30 + l) 0, s.2)
def rtS (hL : Nat → Bool) (ok : Nat → Bool) (c : Nat → Nat) (mn : Nat) (s : rts) : Nat → rts
  | 0 => s
  | n + 1 => if hL n = true then rtA mn n (c n) (ok n) (rtS hL ok c mn s n) else rtB mn n (rtS hL ok c mn s n)
theorem rtS_yes {hL ok : Nat → Bool} {c : Nat → Nat} {mn n : Nat} {s t : rts} {b : Bool} {v : Nat} (h : rtS hL ok c mn s n = t) (hl : hL n = true) (hb : ok n = b) (hv : c n = v) : rtS hL ok c mn s (n + 1) = rtA mn n v b t := by
  show (if _ then _ else _) = _
  rw [if_pos hl, h, hb, hv]
theorem rtS_no {hL ok : Nat → Bool} {c : Nat → Nat} {mn n : Nat} {s t : rts} (h : rtS hL ok c mn s n = t) (hl : ¬ hL n = true) : rtS hL ok c mn s (n + 1) = rtB mn n t := by
  show (if _ then _ else _) = _
  rw [if_neg hl, h]
theorem up_z (f : Nat → Nat) (k : Nat) : upd (fun i => nI (f i)) k (1 &&& 1) = fun i => nI (va_up f k 1 i) := by
  rw [show ((1 : Int32) &&& 1) = nI 1 by decide]
  exact up_i f k 1
theorem q_ct {c : Nat} (h : c ≤ 2100000000000000000) : c / CT ≤ 1000000000 := by
  have h1 : c / CT ≤ 2100000000000000000 / CT := Nat.div_le_div_right h
  have h2 : 2100000000000000000 / CT = 21000000 := by decide +kernel
  omega
