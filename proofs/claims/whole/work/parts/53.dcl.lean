/-! THE CLASS'S RULES AS A PLACE'S; A DUTY -/
theorem fq_goods {kf nf rr rm : Nat → Nat} {e K g : Nat} (H : ∀ n, n < rm e → kf n = rr ((e * 40 + n) * 5) ∧ ∀ k, k < nv (kf n) → nf (n * 4 + k) = rr ((e * 40 + n) * 5 + (k + 1))) (h1 : 1 ≤ K) (h2 : K < 4) : ff (fun n => decide (kf n = K ∧ nf (n * 4 + 0) = g)) 0 (rm e) = mF rr rm e K g 0 := by
  show _ = ff (fp rr e K g 0) 0 (rm e)
  rw [← fq_fp H]
  refine ff_congr (fun n _ _ => ?_)
  unfold fq
  have h0 : K ≠ 0 := by omega
  have h4 : ¬ 4 ≤ K := by omega
  simp [h0, h4]
theorem fq_kind {kf nf rr rm : Nat → Nat} {e K : Nat} (H : ∀ n, n < rm e → kf n = rr ((e * 40 + n) * 5) ∧ ∀ k, k < nv (kf n) → nf (n * 4 + k) = rr ((e * 40 + n) * 5 + (k + 1))) (h1 : 4 ≤ K) : ff (fun n => decide (kf n = K)) 0 (rm e) = mF rr rm e K 0 0 := by
  show _ = ff (fp rr e K 0 0) 0 (rm e)
  rw [← fq_fp H]
  refine ff_congr (fun n _ _ => ?_)
  unfold fq
  have h0 : K ≠ 0 := by omega
  simp [h0, h1]
theorem fq_rate {kf nf rr rm : Nat → Nat} {e g st : Nat} (H : ∀ n, n < rm e → kf n = rr ((e * 40 + n) * 5) ∧ ∀ k, k < nv (kf n) → nf (n * 4 + k) = rr ((e * 40 + n) * 5 + (k + 1))) : ff (fun n => decide (kf n = 0 ∧ nf (n * 4 + 0) = g ∧ nf (n * 4 + 1) ≤ st ∧ st < nf (n * 4 + 2))) 0 (rm e) = mF rr rm e 0 g st := by
  show _ = ff (fp rr e 0 g st) 0 (rm e)
  rw [← fq_fp H]
  refine ff_congr (fun n _ _ => ?_)
  unfold fq
  simp
theorem cR.keepF {G : gG} {h h' : fH} {S : List Nat} {R e : Nat} {rr rm : Nat → Nat} (H : cR G h R rr rm e) (hF : fF (inR S) h h') (h1 : ¬ 7 ∈ S) (h2 : ¬ 8 ∈ S) (h3 : ¬ 9 ∈ S) : cR G h' R rr rm e := by
  obtain ⟨kf, nf, hR, hq⟩ := H
  exact ⟨kf, nf, hR.keepF hF h1 h2 h3, hq⟩
theorem mF_k {rr rm : Nat → Nat} {e K g st n : Nat} (h : mF rr rm e K g st = some n) : n < rm e ∧ rr ((e * 40 + n) * 5) = K := by
  obtain ⟨-, h2, h3⟩ := ff_in (show ff (fp rr e K g st) 0 (rm e) = some n from h)
  exact ⟨by omega, fp_k h3⟩
theorem nv_le (K : Nat) : nv K ≤ 4 := by
  by_cases h : K < 6
  · rcases (show K = 0 ∨ K = 1 ∨ K = 2 ∨ K = 3 ∨ K = 4 ∨ K = 5 by omega) with rfl | rfl | rfl | rfl | rfl | rfl <;> decide
  · unfold nv
    rw [List.getD_eq_getElem?_getD, List.getElem?_eq_none (by simp; omega)]
    decide
def okE (rr rm : Nat → Nat) (e : Nat) : Prop := ∀ n, n < rm e → okR (rr ((e * 40 + n) * 5)) (rr ((e * 40 + n) * 5 + 1)) (rr ((e * 40 + n) * 5 + 2)) (rr ((e * 40 + n) * 5 + 3)) (rr ((e * 40 + n) * 5 + 4))
/-- a duty's object: what was reckoned last -/
def cDo (G : gG) (h : fH) (X ow a1 a2 a3 a4 : Nat) (lt rs : Int32) (hv : Nat → Int32) (sl sr sc : Nat → Nat) (d : dst) : Prop :=
  h X = some (13, ow, .inr (1, [.int lt, .int rs, .int (nI d.1.length), .long (lN d.2.2), .long (lN d.2.1), .ref a1, .ref a2, .ref a3, .ref a4])) ∧ h a1 = some (14, ow, .inl (G.2.1 0, 6, .inl hv)) ∧ h a2 = some (15, ow, .inl (G.2.1 0, 5, .inl (fun i => nI (sl i)))) ∧ h a3 = some (16, ow, .inl (G.2.1 0, 5, .inl (fun i => nI (sr i)))) ∧ h a4 = some (17, ow, .inl (G.2.1 1, 5, .inr (.inl (fun i => lN (sc i))))) ∧
  d.1.length ≤ 5 ∧ ∀ (i : Nat) (q : Nat × Nat × Nat), d.1[i]? = some q → sl i = q.1 ∧ sr i = q.2.1 ∧ sc i = q.2.2
def cDu (G : gG) (h : fH) (X ow : Nat) (lt rs : Int32) (hv : Nat → Int32) (d : dst) : Prop := ∃ (a1 a2 a3 a4 : Nat) (sl sr sc : Nat → Nat), cDo G h X ow a1 a2 a3 a4 lt rs hv sl sr sc d
def inD (ow : Nat) : Nat → Nat → Prop := fun r o => 13 ≤ r ∧ r ≤ 17 ∧ o = ow
theorem cDu.keepF {G : gG} {h h' : fH} {S : Nat → Nat → Prop} {X ow : Nat} {lt rs : Int32} {hv : Nat → Int32} {d : dst} (H : cDu G h X ow lt rs hv d) (hF : fF S h h') (hS : ∀ r, 13 ≤ r → r ≤ 17 → ¬ S r ow) : cDu G h' X ow lt rs hv d := by
  obtain ⟨a1, a2, a3, a4, sl, sr, sc, g1, g2, g3, g4, g5, b⟩ := H
  exact ⟨a1, a2, a3, a4, sl, sr, sc, hF _ _ _ _ g1 (hS _ (by decide) (by decide)), hF _ _ _ _ g2 (hS _ (by decide) (by decide)), hF _ _ _ _ g3 (hS _ (by decide) (by decide)), hF _ _ _ _ g4 (hS _ (by decide) (by decide)), hF _ _ _ _ g5 (hS _ (by decide) (by decide)), b⟩
theorem cR.keepD {G : gG} {h h' : fH} {ow R e : Nat} {rr rm : Nat → Nat} (H : cR G h R rr rm e) (hF : fF (inD ow) h h') : cR G h' R rr rm e := by
  obtain ⟨kf, nf, ⟨a1, a2, g1, g2, g3, b⟩, hq⟩ := H
  exact ⟨kf, nf, ⟨a1, a2, hF _ _ _ _ g1 (fun q => by have := q.1; omega), hF _ _ _ _ g2 (fun q => by have := q.1; omega), hF _ _ _ _ g3 (fun q => by have := q.1; omega), b⟩, hq⟩
theorem m_sA (a b : Nat) : a * 100 * b * 10000 = a * b * 1000000 := by
  rw [Nat.mul_right_comm a 100 b]
  omega
theorem oN_some {x : Option Nat} (h : x ≠ none) : ∃ v, x = some v := by
  cases x with
  | none => exact absurd rfl h
  | some v => exact ⟨v, rfl⟩
theorem least_mn {a b : Nat} (ha : a < 2 ^ 63) (hb : b < 2 ^ 63) : (if lN b < lN a then lN b else lN a) = lN (min a b) := by
  by_cases h : b < a
  · rw [if_pos ((pk_lLT hb ha).mpr h), Nat.min_eq_right (by omega)]
  · rw [if_neg (fun q => h ((pk_lLT hb ha).mp q)), Nat.min_eq_left (by omega)]
theorem sB_post {li pay : Nat} {lost loss : Option Nat} {V : Nat → Nat → Nat} {d : dst} (h1 : d.1.length ≤ 1) (h2 : d.2.2 = li * pay * 1000000) (h3 : d.2.1 = 0) (hV : ∀ r, loss = some r → V r 2 ≤ 100) : (sB li pay lost loss V d).1.length ≤ 2 ∧ (sB li pay lost loss V d).2.2 = (li * 100 - (sB li pay lost loss V d).2.1) * pay * 10000 ∧ (sB li pay lost loss V d).2.1 ≤ li * 100 := by
  have h0 : d.1.length ≤ 2 ∧ d.2.2 = (li * 100 - d.2.1) * pay * 10000 ∧ d.2.1 ≤ li * 100 := ⟨by omega, by rw [h2, h3, Nat.sub_zero, m_sA], by omega⟩
  cases lost with
  | none => exact h0
  | some v => cases loss with
    | none => exact h0
    | some r =>
      have hv := hV r rfl
      obtain ⟨A, hA⟩ : ∃ A, A = min (v * 100) (li * V r 2) := ⟨_, rfl⟩
      have ha0 : li * V r 2 ≤ li * 100 := Nat.mul_le_mul_left _ hv
      have ha1 : A ≤ li * V r 2 := by rw [hA]; exact Nat.min_le_right _ _
      have ha3 : li * 100 * pay = li * pay * 100 := Nat.mul_right_comm li 100 pay
      show (d.1 ++ [_]).length ≤ 2 ∧ d.2.2 - min (v * 100) (li * V r 2) * pay * 10000 = (li * 100 - min (v * 100) (li * V r 2)) * pay * 10000 ∧ min (v * 100) (li * V r 2) ≤ li * 100
      rw [← hA, h2, Nat.sub_mul]
      exact ⟨by simp; omega, by omega, by omega⟩
theorem sC_post {li pay : Nat} {gone away : Option Nat} {V : Nat → Nat → Nat} {d : dst} (bli : li ≤ 1000000) (bpay : pay ≤ 1000000) (h1 : d.1.length ≤ 2) (h2 : d.2.2 = (li * 100 - d.2.1) * pay * 10000) : (sC li pay gone away V d).1.length ≤ 3 ∧ (sC li pay gone away V d).2.2 ≤ 1000000000000000000 := by
  have hlp : (li * 100 - d.2.1) * pay ≤ 100000000 * 1000000 := mulle (by omega) bpay
  have h0 : d.1.length ≤ 3 ∧ d.2.2 ≤ 1000000000000000000 := ⟨by omega, by omega⟩
  cases gone with
  | none => exact h0
  | some v => cases away with
    | none => exact h0
    | some r =>
      show (d.1 ++ [_]).length ≤ 3 ∧ d.2.2 - _ ≤ _
      exact ⟨by simp; omega, Nat.le_trans (Nat.sub_le _ _) h0.2⟩
theorem sD_post {small year : Option Nat} {V : Nat → Nat → Nat} {d : dst} (h1 : d.1.length ≤ 3) (h2 : d.2.2 ≤ 1000000000000000000) (hV : ∀ r, small = some r → V r 3 ≤ 100) : (sD small year V d).1.length ≤ 4 ∧ (sD small year V d).2.2 ≤ 1000000000000000000 := by
  have h0 : d.1.length ≤ 4 ∧ d.2.2 ≤ 1000000000000000000 := ⟨by omega, h2⟩
  cases small with
  | none => exact h0
  | some r => cases year with
    | none => exact h0
    | some y =>
      have hv := hV r rfl
      have hc9 : d.2.2 / 100 * V r 3 ≤ d.2.2 / 100 * 100 := Nat.mul_le_mul_left _ hv
      have hc8 : d.2.2 / 100 * 100 ≤ d.2.2 := Nat.div_mul_le_self _ _
      show (if y < V r 2 then sD1 (V r 3) r d else d).1.length ≤ 4 ∧ (if y < V r 2 then sD1 (V r 3) r d else d).2.2 ≤ _
      split
      · show (d.1 ++ [_]).length ≤ 4 ∧ d.2.2 / 100 * V r 3 ≤ _
        exact ⟨by simp; omega, by omega⟩
      · exact h0
/-- the editions -/
def cEd (G : gG) (h : fH) (E ne : Nat) (ef rr rm : Nat → Nat) : Prop := ∃ (A5 A6 : Nat) (ge : Nat → Option Nat), h E = some (4, 0, .inr (2, [.int (nI ne), .ref A5, .ref A6])) ∧ h A5 = some (5, 0, .inl (G.2.1 4, 10, .inr (.inr (.inr (.inr ge))))) ∧ h A6 = some (6, 0, .inl (G.2.1 0, 10, .inl (fun i => nI (ef i)))) ∧ (∀ i, i < ne → ∃ R, ge i = some R ∧ cR G h R rr rm i) ∧ ne ≤ 10 ∧ ∀ i, ef i ≤ 100000
theorem cEd.keepF {G : gG} {h h' : fH} {S : List Nat} {E ne : Nat} {ef rr rm : Nat → Nat} (H : cEd G h E ne ef rr rm) (hF : fF (inR S) h h') (hS : S.all (fun r => decide (r < 4 ∨ 9 < r)) = true) : cEd G h' E ne ef rr rm := by
  have hs : ∀ r, 4 ≤ r → r ≤ 9 → ¬ r ∈ S := fun r h1 h2 hr => by have := List.all_eq_true.mp hS r hr; simp only [decide_eq_true_eq] at this; omega
  obtain ⟨A5, A6, ge, g1, g2, g3, g4, b⟩ := H
  exact ⟨A5, A6, ge, hF _ _ _ _ g1 (hs _ (by decide) (by decide)), hF _ _ _ _ g2 (hs _ (by decide) (by decide)), hF _ _ _ _ g3 (hs _ (by decide) (by decide)), fun i hi => by obtain ⟨R, e1, e2⟩ := g4 i hi; exact ⟨R, e1, e2.keepF hF (hs _ (by decide) (by decide)) (hs _ (by decide) (by decide)) (hs _ (by decide) (by decide))⟩, b⟩
theorem cEd.keepD {G : gG} {h h' : fH} {ow E ne : Nat} {ef rr rm : Nat → Nat} (H : cEd G h E ne ef rr rm) (hF : fF (inD ow) h h') : cEd G h' E ne ef rr rm := by
  obtain ⟨A5, A6, ge, g1, g2, g3, g4, b⟩ := H
  exact ⟨A5, A6, ge, hF _ _ _ _ g1 (fun q => by have := q.1; omega), hF _ _ _ _ g2 (fun q => by have := q.1; omega), hF _ _ _ _ g3 (fun q => by have := q.1; omega), fun i hi => by obtain ⟨R, e1, e2⟩ := g4 i hi; exact ⟨R, e1, e2.keepD hF⟩, b⟩
theorem cFo.keepD {G : gG} {h h' : fH} {ow F A : Nat} {fa : Nat → Nat} {gq : Nat → Option Nat} {nf la : Nat} {fl fk fd fw fv : Nat → Nat} (H : cFo G h F A fa gq nf la fl fk fd fw fv) (hF : fF (inD ow) h h') : cFo G h' F A fa gq nf la fl fk fd fw fv :=
  ⟨hF _ _ _ _ H.1 (fun q => by have := q.1; omega), hF _ _ _ _ H.2.1 (fun q => by have := q.1; omega), H.2.2.1, fun i hi => hF _ _ _ _ (H.2.2.2.1 i hi) (fun q => by have := q.1; omega), H.2.2.2.2⟩
