/-! EDITIONS OF THE CLASS; RECKONING -/
def efo (ef : Nat → Nat) : Option Nat → Nat
  | none => 0
  | some b => ef b
theorem eoC_n {ef : Nat → Nat} {day n : Nat} (x : Option Nat) : eoC ef day n x = true ↔ ef n ≤ day ∧ efo ef x ≤ ef n := by
  cases x with
  | none => simp [eoC, efo]
  | some b => simp [eoC, efo]
theorem cR_cp {G : gG} {h : fH} {R ne e : Nat} {rr rm : Nat → Nat} (H : cR G h R rr rm e) (he : e < 11) (hne : e ≠ ne) : cR G h R (cp rr ne 200) (va_up rm ne (rm 10)) e := by
  obtain ⟨kf, nf, hR, hq⟩ := H
  have hcnt : rm e ≤ 40 := by obtain ⟨_, _, _, _, _, q, _⟩ := id hR; exact q
  refine ⟨kf, nf, by rw [va_up_ne _ _ hne]; exact hR, fun n hn => ?_⟩
  rw [va_up_ne _ _ hne] at hn
  obtain ⟨h1, h2⟩ := hq n hn
  have c0 := cp_at (rr := rr) (ne := ne) (j := 0) he (show n < 40 by omega) (by decide)
  rw [if_neg hne] at c0
  refine ⟨by rw [h1]; exact c0.symm, fun k hk => ?_⟩
  have hk4 := nv_le (kf n)
  have ck := cp_at (rr := rr) (ne := ne) (j := k + 1) he (show n < 40 by omega) (by omega)
  rw [if_neg hne] at ck
  rw [ck]
  exact h2 k hk
theorem cR_10 {G : gG} {h : fH} {R ne : Nat} {rr rm : Nat → Nat} (H : cR G h R rr rm 10) (hne : ne < 10) : cR G h R (cp rr ne 200) (va_up rm ne (rm 10)) ne := by
  obtain ⟨kf, nf, hR, hq⟩ := H
  have hcnt : rm 10 ≤ 40 := by obtain ⟨_, _, _, _, _, q, _⟩ := id hR; exact q
  refine ⟨kf, nf, by rw [va_up_self]; exact hR, fun n hn => ?_⟩
  rw [va_up_self] at hn
  obtain ⟨h1, h2⟩ := hq n hn
  have c0 := cp_at (rr := rr) (ne := ne) (e := ne) (j := 0) (by omega) (show n < 40 by omega) (by decide)
  rw [if_pos rfl] at c0
  refine ⟨by rw [h1]; exact c0.symm, fun k hk => ?_⟩
  have hk4 := nv_le (kf n)
  have ck := cp_at (rr := rr) (ne := ne) (e := ne) (j := k + 1) (by omega) (show n < 40 by omega) (by omega)
  rw [if_pos rfl] at ck
  rw [ck]
  exact h2 k hk
theorem rkE_inv {K : Nat → Option Nat} {F : Nat → Nat → Nat → Option Nat} {V : Nat → Nat → Nat} (h : (rkE K F V).1 = -1) : ∃ g st li ra, K 0 = some g ∧ K 1 = some st ∧ K 2 = some li ∧ F 0 g st = some ra ∧ ¬ ((F 1 g 0).isSome = true ∧ (K 3).isNone = true) ∧ rkE K F V = (-1, rkS K F V g li ra) := by
  unfold rkE at h ⊢
  rcases e0 : K 0 with _ | g
  · rw [e0] at h; exact absurd (show (0 : Int32) = -1 from h) (by decide)
  · rcases e1 : K 1 with _ | st
    · rw [e0, e1] at h; exact absurd (show (1 : Int32) = -1 from h) (by decide)
    · rcases e2 : K 2 with _ | li
      · rw [e0, e1, e2] at h; exact absurd (show (2 : Int32) = -1 from h) (by decide)
      · rcases eR : F 0 g st with _ | ra
        · simp only [e0, e1, e2, eR] at h; exact absurd h (by decide)
        · simp only [e0, e1, e2, eR] at h
          by_cases hc : (F 1 g 0).isSome = true ∧ (K 3).isNone = true
          · rw [if_pos hc] at h; exact absurd h (by decide)
          · exact ⟨g, st, li, ra, rfl, rfl, rfl, eR, hc, by simp only [eR]; rw [if_neg hc]⟩
theorem rkE_d0 {K : Nat → Option Nat} {F : Nat → Nat → Nat → Option Nat} {V : Nat → Nat → Nat} (h : ¬ (rkE K F V).1 = -1) : (rkE K F V).2 = d0 := by
  unfold rkE at h ⊢
  rcases e0 : K 0 with _ | g
  · rfl
  · rcases e1 : K 1 with _ | st
    · rfl
    · rcases e2 : K 2 with _ | li
      · rfl
      · rcases eR : F 0 g st with _ | ra
        · simp only [eR]
        · simp only [e0, e1, e2, eR] at h ⊢
          by_cases hc : (F 1 g 0).isSome = true ∧ (K 3).isNone = true
          · rw [if_pos hc]
          · rw [if_neg hc] at h; exact absurd rfl h
theorem mK_b {nf : Nat} {fl fk fd fw fv : Nat → Nat} {lot day on k v : Nat} (bnf : nf ≤ 300) (bfv : ∀ i, fv i ≤ mostN (fk i)) (h : mK nf fl fk fd fw fv lot day on k = some v) : v ≤ mostN k := by
  unfold mK at h
  rcases hk_ix (fl := fl) (fk := fk) (fd := fd) (fw := fw) (lot := lot) (kind := k) (day := day) (on := on) nf with e | ⟨i, hi, e, hm⟩
  · rw [e] at h; cases h
  · rw [e, kv_k (by omega)] at h
    cases h
    rw [← hm.2.1]
    exact bfv i
theorem f_RA {U : State} {cA : ClassId} {C : String} (h : va_RA U cA (.object C)) : U.vm.findClass ("[" ++ (FieldType.object C).toString) = some cA := by
  obtain ⟨_, _, _, _, _, h⟩ := h
  exact h
