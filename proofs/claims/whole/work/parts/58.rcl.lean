/-! THE CLASS'S RETURNS -/
def LST : Int64 := -9223372036854775808
def hz (th : Nat → Nat) (mn i : Nat) : Nat := if i < 30 ∧ ¬ th (mn * 30 + i) = 0 then 1 else 0
theorem hz_le (th : Nat → Nat) (mn i : Nat) : hz th mn i ≤ 1 := by unfold hz; split <;> omega
/-- a month's return: its object, its rows -/
def cRt (G : gG) (h : fH) (Z ow mn : Nat) (bo : Option Nat) (th du : Nat → Nat) (ch : Nat → Int64) : Prop := ∃ (b1 b2 b3 : Nat) (ce : Nat → Int64), h Z = some (18, ow, .inr (5, [.int (nI mn), va_rf bo, .ref b1, .ref b2, .ref b3])) ∧ h b1 = some (19, ow, .inl (G.2.1 2, 30, .inl (fun i => nI (hz th mn i)))) ∧ h b2 = some (20, ow, .inl (G.2.1 1, 30, .inr (.inl ce))) ∧ h b3 = some (21, ow, .inl (G.2.1 1, 30, .inr (.inl ch))) ∧ ∀ i, i < 30 → ¬ th (mn * 30 + i) = 0 → ce i = (if th (mn * 30 + i) = 1 then lN (du (mn * 30 + i)) else -9223372036854775808)
def inT (ow : Nat) : Nat → Nat → Prop := fun r o => 18 ≤ r ∧ r ≤ 21 ∧ o = ow
theorem cRt.keepF {G : gG} {h h' : fH} {S : Nat → Nat → Prop} {Z ow mn : Nat} {bo : Option Nat} {th du : Nat → Nat} {ch : Nat → Int64} (H : cRt G h Z ow mn bo th du ch) (hF : fF S h h') (hS : ∀ r, 18 ≤ r → r ≤ 21 → ¬ S r ow) : cRt G h' Z ow mn bo th du ch := by
  obtain ⟨b1, b2, b3, ce, g1, g2, g3, g4, b⟩ := H
  exact ⟨b1, b2, b3, ce, hF _ _ _ _ g1 (hS _ (by decide) (by decide)), hF _ _ _ _ g2 (hS _ (by decide) (by decide)), hF _ _ _ _ g3 (hS _ (by decide) (by decide)), hF _ _ _ _ g4 (hS _ (by decide) (by decide)), b⟩
theorem cRt.other {G : gG} {h : fH} {Z ow mn : Nat} {bo : Option Nat} {th du th' du' : Nat → Nat} {ch : Nat → Int64} (H : cRt G h Z ow mn bo th du ch) (he : ∀ i, i < 30 → th' (mn * 30 + i) = th (mn * 30 + i) ∧ du' (mn * 30 + i) = du (mn * 30 + i)) : cRt G h Z ow mn bo th' du' ch := by
  obtain ⟨b1, b2, b3, ce, g1, g2, g3, g4, b⟩ := H
  have e1 : (fun i => nI (hz th' mn i)) = fun i => nI (hz th mn i) := by
    funext i
    unfold hz
    by_cases hi : i < 30
    · rw [(he i hi).1]
    · rw [if_neg (fun q => hi q.1), if_neg (fun q => hi q.1)]
  exact ⟨b1, b2, b3, ce, g1, by rw [e1]; exact g2, g3, g4, fun i hi hn => by rw [(he i hi).1, (he i hi).2]; exact b i hi (by rw [← (he i hi).1]; exact hn)⟩
theorem lN_ne {c : Nat} (h : c ≤ 1000000000) : ¬ lN c = -9223372036854775808 := fun q => by
  have h1 := congrArg Int64.toInt q
  rw [show (lN c).toInt = (c : Int) from lN_toInt (by omega)] at h1
  have h2 : ((-9223372036854775808 : Int64)).toInt = -9223372036854775808 := by decide
  omega
/-- rows so far -/
def cnt (th : Nat → Nat) (mn : Nat) : Nat → Nat
  | 0 => 0
  | n + 1 => cnt th mn n + hz th mn n
theorem cnt_le (th : Nat → Nat) (mn : Nat) : ∀ n, cnt th mn n ≤ n
  | 0 => Nat.le_refl _
  | n + 1 => by have h1 := cnt_le th mn n; have h2 := hz_le th mn n; show cnt th mn n + hz th mn n ≤ n + 1; omega
/-- the lot of row k -/
def ltR (th : Nat → Nat) (mn : Nat) (k : Int32) (n : Nat) : Option Nat := ff (fun i => decide (hz th mn i = 1 ∧ nI (cnt th mn i) = k)) n (30 - n)
theorem hz_0 {th : Nat → Nat} {mn i : Nat} (h : th (mn * 30 + i) = 0) : nI (hz th mn i) = 0 := by
  unfold hz
  rw [if_neg (fun q => q.2 h)]
  rfl
theorem hz_1 {th : Nat → Nat} {mn i : Nat} (hi : i < 30) (h : ¬ th (mn * 30 + i) = 0) : nI (hz th mn i) = 1 := by
  unfold hz
  rw [if_pos ⟨hi, h⟩]
  rfl
theorem hz_up {th : Nat → Nat} {mn lo v : Nat} (hl : lo < 30) (hv : ¬ v = 0) : upd (fun i => nI (hz th mn i)) lo (1 &&& 1) = fun i => nI (hz (va_up (va_up th (mn * 30 + lo) 0) (mn * 30 + lo) v) mn i) := by
  funext i
  by_cases e : i = lo
  · subst e
    rw [pk_us, hz_1 hl (by rw [va_up_self]; exact hv)]
    decide
  · rw [pk_un e]
    unfold hz
    rw [va_up_ne _ _ (by omega), va_up_ne _ _ (by omega)]
theorem cRt_put {G : gG} {h : fH} {Z ow mn b1 b2 b3 lo v c1 : Nat} {bo : Option Nat} {th du : Nat → Nat} {ch ce : Nat → Int64} {cv : Int64} (g1 : h Z = some (18, ow, .inr (5, [.int (nI mn), va_rf bo, .ref b1, .ref b2, .ref b3]))) (g2 : h b1 = some (19, ow, .inl (G.2.1 2, 30, .inl (fun i => nI (hz (va_up (va_up th (mn * 30 + lo) 0) (mn * 30 + lo) v) mn i))))) (g3 : h b2 = some (20, ow, .inl (G.2.1 1, 30, .inr (.inl (vp_updL ce lo cv))))) (g4 : h b3 = some (21, ow, .inl (G.2.1 1, 30, .inr (.inl ch)))) (hce : ∀ i, i < 30 → ¬ th (mn * 30 + i) = 0 → ce i = (if th (mn * 30 + i) = 1 then lN (du (mn * 30 + i)) else -9223372036854775808)) (hcv : cv = if v = 1 then lN c1 else -9223372036854775808) :
    cRt G h Z ow mn bo (va_up (va_up th (mn * 30 + lo) 0) (mn * 30 + lo) v) (va_up du (mn * 30 + lo) c1) ch := by
  refine ⟨b1, b2, b3, _, g1, g2, g3, g4, fun i hi hn => ?_⟩
  by_cases e : i = lo
  · subst e
    rw [va_up_self, va_up_self]
    show (if i = i then cv else ce i) = _
    rw [if_pos rfl]
    exact hcv
  · rw [va_up_ne _ _ (by omega), va_up_ne _ _ (by omega)] at hn
    rw [va_up_ne _ _ (by omega), va_up_ne _ _ (by omega), va_up_ne _ _ (by omega)]
    show (if i = lo then cv else ce i) = _
    rw [if_neg e]
    exact hce i hi hn
