/-! THE CLASS'S RULES AS A PLACE'S; A DUTY -/
theorem fq_goods {kf nf rr rm : Nat → Nat} {e K g : Nat} (H : ∀ n, n < rm e → kf n = rr ((e * 40 + n) * 5) ∧ ∀ k, k < nv (kf n) → nf (n * 4 + k) = rr ((e * 40 + n) * 5 + (k + 1))) (h1 : 1 ≤ K) (h2 : K < 4) : ff (fun n => decide (kf n = K ∧ nf (n * 4 + 0) = g)) 0 (rm e) = mF rr rm e K g 0 := by
  show _ = ff (fp rr e K g 0) 0 (rm e)
  rw [← fq_fp H]
  refine ff_congr (fun n _ _ => ?_)
  unfold fq
  have h0 : K ≠ 0 := by omega
  have h4 : ¬ 4 ≤ K := by omega
  simp [h0, h4]
theorem fq_kind {kf nf rr rm : Nat → Nat} {e K : Nat} (H : ∀ n, n < rm e → kf n = rr ((e * 40 + n) * 5) ∧ ∀ k, k < nv (kf n) → nf (n * 4 + k) = rr ((e * 40 + n) * 5 + (k + 1))) (h1 : 4 ≤ K) : ff (fun n => decide (kf n = K)) 0 (rm e) = mF rr rm e K 0 0 := by
  show _ = ff (fp rr e K 0 0) 0 (rm e)
  rw [← fq_fp H]
  refine ff_congr (fun n _ _ => ?_)
  unfold fq
  have h0 : K ≠ 0 := by omega
  simp [h0, h1]
theorem fq_rate {kf nf rr rm : Nat → Nat} {e g st : Nat} (H : ∀ n, n < rm e → kf n = rr ((e * 40 + n) * 5) ∧ ∀ k, k < nv (kf n) → nf (n * 4 + k) = rr ((e * 40 + n) * 5 + (k + 1))) : ff (fun n => decide (kf n = 0 ∧ nf (n * 4 + 0) = g ∧ nf (n * 4 + 1) ≤ st ∧ st < nf (n * 4 + 2))) 0 (rm e) = mF rr rm e 0 g st := by
  show _ = ff (fp rr e 0 g st) 0 (rm e)
  rw [← fq_fp H]
  refine ff_congr (fun n _ _ => ?_)
  unfold fq
  simp
theorem cR.keepF {G : gG} {h h' : fH} {S : List Nat} {R e : Nat} {rr rm : Nat → Nat} (H : cR G h R rr rm e) (hF : fF (inR S) h h') (h1 : ¬ 7 ∈ S) (h2 : ¬ 8 ∈ S) (h3 : ¬ 9 ∈ S) : cR G h' R rr rm e := by
  obtain ⟨kf, nf, hR, hq⟩ := H
  exact ⟨kf, nf, hR.keepF hF h1 h2 h3, hq⟩
theorem mF_k {rr rm : Nat → Nat} {e K g st n : Nat} (h : mF rr rm e K g st = some n) : n < rm e ∧ rr ((e * 40 + n) * 5) = K := by
  obtain ⟨-, h2, h3⟩ := ff_in (show ff (fp rr e K g st) 0 (rm e) = some n from h)
  exact ⟨by omega, fp_k h3⟩
theorem nv_le (K : Nat) : nv K ≤ 4 := by
  by_cases h : K < 6
  · rcases (show K = 0 ∨ K = 1 ∨ K = 2 ∨ K = 3 ∨ K = 4 ∨ K = 5 by omega) with rfl | rfl | rfl | rfl | rfl | rfl <;> decide
  · unfold nv
    rw [List.getD_eq_getElem?_getD, List.getElem?_eq_none (by simp; omega)]
    decide
def okE (rr rm : Nat → Nat) (e : Nat) : Prop := ∀ n, n < rm e → okR (rr ((e * 40 + n) * 5)) (rr ((e * 40 + n) * 5 + 1)) (rr ((e * 40 + n) * 5 + 2)) (rr ((e * 40 + n) * 5 + 3)) (rr ((e * 40 + n) * 5 + 4))
/-- a duty's object: what was reckoned last -/
def cDo (G : gG) (h : fH) (X ow a1 a2 a3 a4 : Nat) (lt rs : Int32) (hv : Nat → Int32) (sl sr sc : Nat → Nat) (d : dst) : Prop :=
  h X = some (13, ow, .inr (1, [.int lt, .int rs, .int (nI d.1.length), .long (lN d.2.2), .long (lN d.2.1), .ref a1, .ref a2, .ref a3, .ref a4])) ∧ h a1 = some (14, ow, .inl (G.2.1 0, 6, .inl hv)) ∧ h a2 = some (15, ow, .inl (G.2.1 0, 5, .inl (fun i => nI (sl i)))) ∧ h a3 = some (16, ow, .inl (G.2.1 0, 5, .inl (fun i => nI (sr i)))) ∧ h a4 = some (17, ow, .inl (G.2.1 1, 5, .inr (.inl (fun i => lN (sc i))))) ∧
  d.1.length ≤ 5 ∧ ∀ (i : Nat) (q : Nat × Nat × Nat), d.1[i]? = some q → sl i = q.1 ∧ sr i = q.2.1 ∧ sc i = q.2.2
def cDu (G : gG) (h : fH) (X ow : Nat) (lt rs : Int32) (hv : Nat → Int32) (d : dst) : Prop := ∃ (a1 a2 a3 a4 : Nat) (sl sr sc : Nat → Nat), cDo G h X ow a1 a2 a3 a4 lt rs hv sl sr sc d
def inD (ow : Nat) : Nat → Nat → Prop := fun r o => 13 ≤ r ∧ r ≤ 17 ∧ o = ow
theorem cDu.keepF {G : gG} {h h' : fH} {S : Nat → Nat → Prop} {X ow : Nat} {lt rs : Int32} {hv : Nat → Int32} {d : dst} (H : cDu G h X ow lt rs hv d) (hF : fF S h h') (hS : ∀ r, 13 ≤ r → r ≤ 17 → ¬ S r ow) : cDu G h' X ow lt rs hv d := by
  obtain ⟨a1, a2, a3, a4, sl, sr, sc, g1, g2, g3, g4, g5, b⟩ := H
  exact ⟨a1, a2, a3, a4, sl, sr, sc, hF _ _ _ _ g1 (hS _ (by decide) (by decide)), hF _ _ _ _ g2 (hS _ (by decide) (by decide)), hF _ _ _ _ g3 (hS _ (by decide) (by decide)), hF _ _ _ _ g4 (hS _ (by decide) (by decide)), hF _ _ _ _ g5 (hS _ (by decide) (by decide)), b⟩
theorem cR.keepD {G : gG} {h h' : fH} {ow R e : Nat} {rr rm : Nat → Nat} (H : cR G h R rr rm e) (hF : fF (inD ow) h h') : cR G h' R rr rm e := by
  obtain ⟨kf, nf, ⟨a1, a2, g1, g2, g3, b⟩, hq⟩ := H
  exact ⟨kf, nf, ⟨a1, a2, hF _ _ _ _ g1 (fun q => by have := q.1; omega), hF _ _ _ _ g2 (fun q => by have := q.1; omega), hF _ _ _ _ g3 (fun q => by have := q.1; omega), b⟩, hq⟩
theorem m_sA (a b : Nat) : a * 100 * b * 10000 = a * b * 1000000 := by
  rw [Nat.mul_right_comm a 100 b]
  omega
theorem oN_some {x : Option Nat} (h : x ≠ none) : ∃ v, x = some v := by
  cases x with
  | none => exact absurd rfl h
  | some v => exact ⟨v, rfl⟩
theorem least_mn {a b : Nat} (ha : a < 2 ^ 63) (hb : b < 2 ^ 63) : (if lN b < lN a then lN b else lN a) = lN (min a b) := by
  by_cases h : b < a
  · rw [if_pos ((pk_lLT hb ha).mpr h), Nat.min_eq_right (by omega)]
  · rw [if_neg (fun q => h ((pk_lLT hb ha).mp q)), Nat.min_eq_left (by omega)]
