/-! WHAT WAS READ IS DONE: its roles change -/
def reR (h : fH) : fH := fun a => match h a with
  | some (r, o, e) => some (if r = 28 then 7 else if r = 29 then 8 else if r = 30 then 9 else r, o, e)
  | none => none
theorem reR_at {h : fH} {a r o : Nat} {e : va_E} (h0 : h a = some (r, o, e)) : reR h a = some (if r = 28 then 7 else if r = 29 then 8 else if r = 30 then 9 else r, o, e) := by
  unfold reR
  rw [h0]
theorem reR_V (h : fH) : fV h (reR h) := by
  refine ⟨fun a c' hc => ?_, fun a o e ha => ?_⟩
  · unfold reR at hc
    rcases e : h a with _ | ⟨r, o, x⟩
    · rw [e] at hc; cases hc
    · rw [e] at hc
      cases hc
      refine ⟨_, rfl, rfl, ?_⟩
      show r = 0 ↔ (if r = 28 then 7 else if r = 29 then 8 else if r = 30 then 9 else r) = 0
      split
      · omega
      · split
        · omega
        · split <;> omega
  · rw [reR_at ha]; rfl
theorem reR_F (h : fH) : fF (inR [28, 29, 30]) h (reR h) := by
  intro a r o e ha hr
  rw [reR_at ha]
  have h1 : r ≠ 28 := fun q => hr (by rw [q]; show _ ∈ _; decide)
  have h2 : r ≠ 29 := fun q => hr (by rw [q]; show _ ∈ _; decide)
  have h3 : r ≠ 30 := fun q => hr (by rw [q]; show _ ∈ _; decide)
  rw [if_neg h1, if_neg h2, if_neg h3]
theorem reR_U {G : gG} {h : fH} {R cnt : Nat} {kf nf : Nat → Nat} (H : rU G h 28 29 30 R cnt kf nf) : rU G (reR h) 7 8 9 R cnt kf nf := by
  obtain ⟨a1, a2, g1, g2, g3, b⟩ := H
  exact ⟨a1, a2, by rw [reR_at g1]; rfl, by rw [reR_at g2]; rfl, by rw [reR_at g3]; rfl, b⟩
