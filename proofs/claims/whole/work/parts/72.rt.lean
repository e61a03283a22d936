/-! A RETURN IS MADE -/
def inRt : Nat → Nat → Prop := fun r o => r = 1 ∨ (18 ≤ r ∧ r ≤ 21) ∨ inD 1 r o
theorem cEd.keepG {G : gG} {h h' : fH} {S : Nat → Nat → Prop} {E ne : Nat} {ef rr rm : Nat → Nat} (H : cEd G h E ne ef rr rm) (hF : fF S h h') (hs : ∀ r o, 4 ≤ r → r ≤ 9 → ¬ S r o) : cEd G h' E ne ef rr rm := by
  obtain ⟨A5, A6, ge, g1, g2, g3, g4, b⟩ := H
  refine ⟨A5, A6, ge, hF _ _ _ _ g1 (hs _ _ (by decide) (by decide)), hF _ _ _ _ g2 (hs _ _ (by decide) (by decide)), hF _ _ _ _ g3 (hs _ _ (by decide) (by decide)), fun i hi => ?_, b⟩
  obtain ⟨R, e1, kf, nf, ⟨a1, a2, q1, q2, q3, q4⟩, q5⟩ := g4 i hi
  exact ⟨R, e1, kf, nf, ⟨a1, a2, hF _ _ _ _ q1 (hs _ _ (by decide) (by decide)), hF _ _ _ _ q2 (hs _ _ (by decide) (by decide)), hF _ _ _ _ q3 (hs _ _ (by decide) (by decide)), q4⟩, q5⟩
theorem cFo.keepG {G : gG} {h h' : fH} {S : Nat → Nat → Prop} {F A : Nat} {fa : Nat → Nat} {gq : Nat → Option Nat} {nf la : Nat} {fl fk fd fw fv : Nat → Nat} (H : cFo G h F A fa gq nf la fl fk fd fw fv) (hF : fF S h h') (hs : ∀ r o, 10 ≤ r → r ≤ 12 → ¬ S r o) : cFo G h' F A fa gq nf la fl fk fd fw fv :=
  ⟨hF _ _ _ _ H.1 (hs _ _ (by decide) (by decide)), hF _ _ _ _ H.2.1 (hs _ _ (by decide) (by decide)), H.2.2.1, fun i hi => hF _ _ _ _ (H.2.2.2.1 i hi) (hs _ _ (by decide) (by decide)), H.2.2.2.2⟩
theorem cIn.keepG {G : gG} {h h' : fH} {S : Nat → Nat → Prop} {I : Nat} (H : cIn G h I) (hF : fF S h h') (hs : ∀ r, 13 ≤ r → r ≤ 17 → ¬ S r 1) : cIn G h' I := by
  obtain ⟨lt, rs, hv, d, hD⟩ := H
  exact ⟨lt, rs, hv, d, hD.keepF hF hs⟩
def chU (chs : Nat → Nat → Int64) (i : Nat) (c : Nat → Int64) : Nat → Nat → Int64 := fun j => if j = i then c else chs j
theorem chU_s (chs : Nat → Nat → Int64) (i : Nat) (c : Nat → Int64) : chU chs i c i = c := if_pos rfl
theorem cCh_put {G : gG} {h h9 : fH} {nn i mn : Nat} {pr pm th du th' du' : Nat → Nat} {chs : Nat → Nat → Int64} {c : Nat → Int64} (H : cCh G h nn pr pm th du chs) (hi : i < nn) (hpm : pm i = mn) (hF : fF (inT i) h h9) (hZ : cRt G h9 (pr i) i mn (prv pr i) th' du' c) (he : ∀ k, (k < mn * 30 ∨ mn * 30 + 30 ≤ k) → th' k = th k ∧ du' k = du k) : cCh G h9 nn pr pm th' du' (chU chs i c) := by
  refine ⟨H.1, H.2.1, fun j hj => ?_⟩
  by_cases e : j = i
  · subst e
    rw [chU_s, hpm]
    exact hZ
  · have h1 : chU chs i c j = chs j := if_neg e
    have h2 : pm j ≠ mn := fun q => e (H.2.1 j i hj hi (by rw [q, hpm]))
    rw [h1]
    exact ((H.2.2 j hj).keepF hF (fun r _ _ q => e q.2.2)).other (fun l hl => he _ (by omega))
theorem cCh_new {G : gG} {h h9 : fH} {nn mn Z : Nat} {pr pm th du : Nat → Nat} {chs : Nat → Nat → Int64} (H : cCh G h nn pr pm th du chs) (bm : mn ≤ 3000) (hno : ∀ j, j < nn → pm j ≠ mn) (hF : fF (inP 18 nn) h h9) (hZ : cRt G h9 Z nn mn (prv pr nn) th du (fun _ => 0)) : cCh G h9 (nn + 1) (va_up pr nn Z) (va_up pm nn mn) th du (chU chs nn (fun _ => 0)) := by
  have hp : ∀ j, j ≤ nn → prv (va_up pr nn Z) j = prv pr j := fun j hj => by
    unfold prv
    by_cases h0 : j = 0
    · rw [if_pos h0, if_pos h0]
    · rw [if_neg h0, if_neg h0, va_up_ne _ _ (by omega)]
  refine ⟨fun j hj => ?_, fun a b ha hb hab => ?_, fun j hj => ?_⟩
  · by_cases e : j = nn
    · rw [e, va_up_self]; exact bm
    · rw [va_up_ne _ _ e]; exact H.1 j (by omega)
  · by_cases ea : a = nn <;> by_cases eb : b = nn
    · omega
    · rw [ea, va_up_self, va_up_ne _ _ eb] at hab
      exact absurd hab.symm (hno b (by omega))
    · rw [eb, va_up_self, va_up_ne _ _ ea] at hab
      exact absurd hab (hno a (by omega))
    · rw [va_up_ne _ _ ea, va_up_ne _ _ eb] at hab
      exact H.2.1 a b (by omega) (by omega) hab
  · rw [hp j (by omega)]
    by_cases e : j = nn
    · subst e
      rw [va_up_self, va_up_self, chU_s]
      exact hZ
    · have h1 : chU chs nn (fun _ => 0) j = chs j := if_neg e
      rw [va_up_ne _ _ e, va_up_ne _ _ e, h1]
      exact (H.2.2 j (by omega)).keepF hF (fun r _ _ q => e q.2)
/-- the rows of a return -/
def RowI (th du : Nat → Nat) (ch : Nat → Int64) (rn : Nat) (rl : Nat → Nat) (rD rM : Nat → Int64) (mn n : Nat) : Prop := rn = cnt th mn n ∧ ∀ l, l < n → hz th mn l = 1 → rl (cnt th mn l) = l ∧ rD (cnt th mn l) = (if th (mn * 30 + l) = 1 then lN (du (mn * 30 + l)) else -9223372036854775808) ∧ rM (cnt th mn l) = ch l
theorem cnt_up {th : Nat → Nat} {mn n v : Nat} : ∀ l, l ≤ n → cnt (va_up (va_up th (mn * 30 + n) 0) (mn * 30 + n) v) mn l = cnt th mn l
  | 0, _ => rfl
  | l + 1, hl => by
    show cnt _ mn l + hz _ mn l = cnt th mn l + hz th mn l
    rw [cnt_up l (by omega)]
    unfold hz
    rw [va_up_ne _ _ (by omega), va_up_ne _ _ (by omega)]
theorem cnt_lt {th : Nat → Nat} {mn l : Nat} (h : hz th mn l = 1) : ∀ n, l < n → cnt th mn l < cnt th mn n
  | 0, hl => absurd hl (Nat.not_lt_zero _)
  | n + 1, hl => by
    show cnt th mn l < cnt th mn n + hz th mn n
    by_cases e : l = n
    · subst e; omega
    · have := cnt_lt h n (by omega); omega
theorem RowI_yes {th du : Nat → Nat} {ch : Nat → Int64} {rn : Nat} {rl : Nat → Nat} {rD rM : Nat → Int64} {mn n v c : Nat} {X : Int64} (h : RowI th du ch rn rl rD rM mn n) (hn : n < 30) (hv : v = 1 ∨ v = 2) : RowI (va_up (va_up th (mn * 30 + n) 0) (mn * 30 + n) v) (va_up du (mn * 30 + n) c) (vp_updL ch n X) (rn + 1) (va_up rl rn n) (vp_updL rD rn (if v = 1 then lN c else -9223372036854775808)) (vp_updL rM rn X) mn (n + 1) := by
  obtain ⟨h1, h2⟩ := h
  have hzn : hz (va_up (va_up th (mn * 30 + n) 0) (mn * 30 + n) v) mn n = 1 := by
    unfold hz
    rw [va_up_self, if_pos ⟨hn, by omega⟩]
  refine ⟨?_, fun l hl hz1 => ?_⟩
  · show rn + 1 = cnt _ mn n + hz _ mn n
    rw [cnt_up n (Nat.le_refl _), hzn, h1]
  · rw [cnt_up l (by omega)]
    by_cases e : l = n
    · subst e
      rw [← h1, va_up_self, va_up_self, va_up_self]
      refine ⟨rfl, ?_, ?_⟩
      · show (if rn = rn then _ else _) = _
        rw [if_pos rfl]
      · show (if rn = rn then X else _) = (if l = l then X else _)
        rw [if_pos rfl, if_pos rfl]
    · have hz2 : hz th mn l = 1 := by
        have : hz (va_up (va_up th (mn * 30 + n) 0) (mn * 30 + n) v) mn l = hz th mn l := by
          unfold hz
          rw [va_up_ne _ _ (by omega), va_up_ne _ _ (by omega)]
        rw [← this]; exact hz1
      have hlt := cnt_lt hz2 n (by omega)
      obtain ⟨q1, q2, q3⟩ := h2 l (by omega) hz2
      rw [va_up_ne _ _ (by omega), va_up_ne _ _ (by omega), va_up_ne _ _ (by omega), va_up_ne _ _ (by omega)]
      refine ⟨q1, ?_, ?_⟩
      · show (if cnt th mn l = rn then _ else _) = _
        rw [if_neg (by omega)]
        exact q2
      · show (if cnt th mn l = rn then X else _) = (if l = n then X else _)
        rw [if_neg (by omega), if_neg e]
        exact q3
theorem RowI_no {th du : Nat → Nat} {ch : Nat → Int64} {rn : Nat} {rl : Nat → Nat} {rD rM : Nat → Int64} {mn n : Nat} (h : RowI th du ch rn rl rD rM mn n) (h0 : th (mn * 30 + n) = 0) : RowI th du ch rn rl rD rM mn (n + 1) := by
  obtain ⟨h1, h2⟩ := h
  have hzn : hz th mn n = 0 := by unfold hz; rw [if_neg (fun q => q.2 h0)]
  refine ⟨?_, fun l hl hz1 => ?_⟩
  · show rn = cnt th mn n + hz th mn n
    rw [hzn, h1]; rfl
  · by_cases e : l = n
    · subst e; omega
    · exact h2 l (by omega) hz1
theorem up_0 {th : Nat → Nat} {k : Nat} (h : th k = 0) : va_up th k 0 = th := by
  funext j
  by_cases e : j = k
  · rw [e, va_up_self, h]
  · rw [va_up_ne _ _ e]
