/-! MORE OF THE CLASS ITSELF -/
def inXD (ow : Nat) : Nat → Nat → Prop := fun r o => r = 1 ∨ inD ow r o
theorem mxl {d n : Nat} (hd : d < 2 ^ 31) (hn : n < 2 ^ 31) : (if (0 : Int64) < lN d - lN n then lN d - lN n else 0) = lN (d - n) := by
  have e3 : (lN d - lN n).toInt = (d : Int) - n := by
    rw [Int64.toInt_sub, pk_lT (n := d) (by omega), pk_lT (n := n) (by omega), Int.bmod_eq_of_le (by omega) (by omega)]
  have e4 : (0 : Int64) < lN d - lN n ↔ n < d := by
    rw [Int64.lt_iff_toInt_lt, e3]
    have : (0 : Int64).toInt = 0 := by decide
    omega
  by_cases h : n < d
  · rw [if_pos (e4.mpr h)]
    exact lN_sub (by omega)
  · rw [if_neg (fun q => h (e4.mp q)), show d - n = 0 by omega]
    rfl
theorem cFo.keepX1 {G : gG} {h h' : fH} {ow F A : Nat} {fa : Nat → Nat} {gq : Nat → Option Nat} {nf la : Nat} {fl fk fd fw fv : Nat → Nat} (H : cFo G h F A fa gq nf la fl fk fd fw fv) (hF : fF (inXD ow) h h') : cFo G h' F A fa gq nf la fl fk fd fw fv :=
  ⟨hF _ _ _ _ H.1 (fun q => by rcases q with q | q; exact absurd q (by decide); exact absurd q.1 (by decide)), hF _ _ _ _ H.2.1 (fun q => by rcases q with q | q; exact absurd q (by decide); exact absurd q.1 (by decide)), H.2.2.1, fun i hi => hF _ _ _ _ (H.2.2.2.1 i hi) (fun q => by rcases q with q | q; exact absurd q (by decide); exact absurd q.1 (by decide)), H.2.2.2.2⟩
theorem fF.xd {h h1 h2 : fH} {ow : Nat} (a : fF (inR [1]) h h1) (b : fF (inD ow) h1 h2) : fF (inXD ow) h h2 :=
  (a.mono (fun r o q => Or.inl (List.mem_singleton.mp q))).tr (b.mono (fun r o q => Or.inr q))
