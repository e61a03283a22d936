/-! THE CLASS READS RULES -/
def fmS (G : gG) (h : fH) : Prop := ∀ K, K < 6 → sT G h 0 0 (fS K) (G.2.2.2 (fS K)) (fx K) (fn K)
theorem fmS.keepX {G : gG} {h h' : fH} {sz : Nat} (H : fmS G h) (hX : fX h sz h') : fmS G h' := fun K hK => (H K hK).keepX hX
theorem sm_eq {tx : Nat → Nat} {b e0 w B E : Nat} {fy : Nat → Nat} (h1 : E - B = wL w) (h2 : ∀ j, j < wL w → fy (B + j) = aL (wS w + j)) : (e0 - b = E - B ∧ ∀ j, j < e0 - b → tx (b + j) = fy (B + j)) ↔ eqW tx b e0 w := by
  unfold eqW
  constructor
  · rintro ⟨q1, q2⟩
    exact ⟨by omega, fun j hj => by rw [q2 j (by omega)]; exact h2 j hj⟩
  · rintro ⟨q1, q2⟩
    exact ⟨by omega, fun j hj => by rw [q2 j (by omega)]; exact (h2 j (by omega)).symm⟩
/-- rules in two arrays -/
def rep4 (kf nf : Nat → Nat) (L : List rlT) : Prop := ∀ (j : Nat) (r : rlT), L[j]? = some r → kf j = r.1 ∧ (∀ i, i < r.2.length → nf (j * 4 + i) = r.2.getD i 0) ∧ wfR r
theorem rep4_0 (kf nf : Nat → Nat) : rep4 kf nf [] := fun j r h => by simp at h
theorem rep4_k {kf nf : Nat → Nat} {L : List rlT} {q v : Nat} (h : rep4 kf nf L) (hq : L.length ≤ q) : rep4 (va_up kf q v) nf L := by
  intro j r hj
  obtain ⟨h1, h2, h3⟩ := h j r hj
  have hl := (List.getElem?_eq_some_iff.mp hj).1
  exact ⟨by rw [va_up_ne _ _ (by omega)]; exact h1, h2, h3⟩
theorem rep4_n {kf nf : Nat → Nat} {L : List rlT} {q v : Nat} (h : rep4 kf nf L) (hq : L.length * 4 ≤ q) : rep4 kf (va_up nf q v) L := by
  intro j r hj
  obtain ⟨h1, h2, h3⟩ := h j r hj
  have hl := (List.getElem?_eq_some_iff.mp hj).1
  have h4 := wfR_4 h3
  exact ⟨h1, fun i hi => by rw [va_up_ne _ _ (by omega)]; exact h2 i hi, h3⟩
theorem rep4_add {kf nf : Nat → Nat} {L : List rlT} {r : rlT} (h : rep4 kf nf L) (h1 : kf L.length = r.1) (h2 : ∀ i, i < r.2.length → nf (L.length * 4 + i) = r.2.getD i 0) (h3 : wfR r) : rep4 kf nf (L ++ [r]) := by
  intro j q hj
  by_cases hl : j < L.length
  · rw [List.getElem?_append_left hl] at hj
    exact h j q hj
  · rw [List.getElem?_append_right (by omega)] at hj
    have hz : j - L.length < 1 := (List.getElem?_eq_some_iff.mp hj).1
    have h5 : j = L.length := by omega
    subst h5
    rw [Nat.sub_self] at hj
    cases hj
    exact ⟨h1, h2, h3⟩
theorem ff_none {P : Nat → Bool} : ∀ {k i : Nat}, ff P i k = none → ∀ j, i ≤ j → j < i + k → ¬ P j = true
  | 0, i, _ => fun j h1 h2 => by omega
  | k + 1, i, h => by
    intro j h1 h2
    unfold ff at h
    split at h
    · cases h
    · next hp =>
      by_cases e : j = i
      · rw [e]; exact hp
      · exact ff_none h j (by omega) (by omega)
theorem mb_no {kf nf : Nat → Nat} {L : List rlT} {K : Nat} (hr : rep4 kf nf L) (bK : K < 6) (bL : L.length ≤ 40) : (L.length < 40 ∧ ((K = 4 ∨ K = 5) → ff (fun n => decide (kf n = K)) 0 L.length = none)) ↔ ¬ r1no K L := by
  constructor
  · rintro ⟨q1, q2⟩ (z | z | ⟨z1, r, z2, z3⟩)
    · omega
    · omega
    · obtain ⟨j, hj⟩ := List.mem_iff_getElem?.mp z2
      have hl := (List.getElem?_eq_some_iff.mp hj).1
      exact ff_none (q2 (by omega)) j (Nat.zero_le _) (by omega) (by simp only [decide_eq_true_eq]; rw [(hr j r hj).1]; exact z3)
  · intro z
    refine ⟨Nat.lt_of_le_of_ne bL (fun q => z (Or.inr (Or.inl q))), fun h4 => ?_⟩
    rcases e : ff (fun n => decide (kf n = K)) 0 L.length with _ | n
    · rfl
    · obtain ⟨-, h2, h3⟩ := ff_in e
      simp only [decide_eq_true_eq] at h3
      have hn : n < L.length := by omega
      exact absurd (Or.inr (Or.inr ⟨by omega, L[n], List.getElem_mem hn, by rw [← (hr n L[n] (List.getElem?_eq_getElem hn)).1]; exact h3⟩)) z
def oK (K : Nat) : Int32 := if K = 6 then -1 else nI K
theorem fm_w {K k w : Nat} (hK : K < 6) (hk : k < plL K) (h : plg K k = .inr w) : wq K (k + 1) < fn K ∧ wq K (k + 1) < wz K (k + 1) ∧ wz K (k + 1) ≤ fn K ∧ wz K (k + 1) - wq K (k + 1) = wL w ∧ (∀ j, j < wL w → fx K (wq K (k + 1) + j) = aL (wS w + j)) ∧ ¬ (65 ≤ fx K (wq K (k + 1)) ∧ fx K (wq K (k + 1)) ≤ 90) := by
  have h1 := fm_ok K hK k (by have := (plg_ok K hK).1; omega) hk
  unfold fmB at h1
  rw [h] at h1
  exact of_decide_eq_true h1
theorem fm_n {K k M : Nat} (hK : K < 6) (hk : k < plL K) (h : plg K k = .inl M) : wq K (k + 1) < fn K ∧ wq K (k + 1) < wz K (k + 1) ∧ wz K (k + 1) ≤ fn K ∧ fx K (wq K (k + 1)) = (ltr K M).1 ∧ (((ltr K M).1, (ltr K M).2, M) ∈ [(71, 0, 9), (83, 0, 10000), (80, 0, 1000000), (76, 0, 100000000), (72, 0, 100), (78, 1, 1000)]) := by
  have h1 := fm_ok K hK k (by have := (plg_ok K hK).1; omega) hk
  unfold fmB at h1
  rw [h] at h1
  exact of_decide_eq_true h1
theorem slot_n {c : Nat} (h : c < 256) : (if nI c < 65 then (0 : Int32) else (if 90 < nI c then 0 else 1)) = if 65 ≤ c ∧ c ≤ 90 then 1 else 0 := by
  have e1 : nI c < 65 ↔ c < 65 := n_lt (b := 65) (by omega) (by decide)
  have e2 : (90 : Int32) < nI c ↔ 90 < c := n_lt (a := 90) (by decide) (by omega)
  by_cases h1 : c < 65
  · rw [if_pos (e1.mpr h1), if_neg (by omega)]
  · rw [if_neg (fun q => h1 (e1.mp q))]
    by_cases h2 : 90 < c
    · rw [if_pos (e2.mpr h2), if_neg (by omega)]
    · rw [if_neg (fun q => h2 (e2.mp q)), if_pos (by omega)]
theorem fn_le : ∀ K, fn K ≤ 30 := by
  intro K
  by_cases h : K < 5
  · rcases (show K = 0 ∨ K = 1 ∨ K = 2 ∨ K = 3 ∨ K = 4 by omega) with rfl | rfl | rfl | rfl | rfl <;> decide
  · unfold fn frm
    split <;> first | omega | decide
theorem fx_lt (K j : Nat) : fx K j < 128 := by
  have h1 : ∀ v ∈ frm K, v < 128 := by
    unfold frm
    split <;> decide
  unfold fx
  rw [List.getD_eq_getElem?_getD]
  rcases e : (frm K)[j]? with _ | v
  · decide
  · exact h1 v (List.mem_of_getElem? e)
theorem ltr_s (K M : Nat) : 65 ≤ (ltr K M).1 ∧ (ltr K M).1 ≤ 90 := by
  unfold ltr
  (repeat' split) <;> decide
theorem ltr_4 {K M : Nat} (h4 : K = 4) : (ltr K M).2 = 1 := by
  unfold ltr
  rw [if_pos h4]
theorem kd_le {tx : Nat → Nat} {b e : Nat} : kd tx b e ≤ 6 := (fi_le 6 0).2
theorem kd_eq {tx : Nat → Nat} {b e K : Nat} (h : kd tx b e = K) (hK : K < 6) : eqW tx b e K := by
  have h1 := fi_at (P := fun w => @decide (eqW tx b e w) (Classical.propDecidable _)) 6 0 (by show kd tx b e < 6; omega)
  have h2 : (fun w => @decide (eqW tx b e w) (Classical.propDecidable _)) (kd tx b e) = true := h1
  rw [h] at h2
  exact @of_decide_eq_true _ (Classical.propDecidable _) h2
theorem dv_b {tx : Nat → Nat} : ∀ (k i v t w : Nat), v < 10 ^ t → dv tx i k v = some w → w < 10 ^ (t + k)
  | 0, i, v, t, w, h, e => by cases e; exact h
  | k + 1, i, v, t, w, h, e => by
    unfold dv at e
    split at e
    · next hd =>
      have := dv_b k (i + 1) (10 * v + tx i - 48) (t + 1) w (by have := p10 (d := tx i - 48) h (by omega); omega) e
      rw [show t + (k + 1) = t + 1 + k by omega]
      exact this
    · cases e
theorem nm_b {tx : Nat → Nat} {b e v : Nat} (h : nm tx b e = some v) : v < 1000000000 := by
  unfold nm at h
  split at h
  · cases h
  · next hc =>
    have h1 := dv_b (e - b) b 0 0 v (by decide) h
    exact p9 h1 (by omega)
theorem rp_bad {tx : Nat → Nat} {n K M b e w : Nat} {ps : List (Nat ⊕ Nat)} {vs : List Nat} (h : ¬ ∃ v, nm tx b e = some v ∧ (ltr K M).2 ≤ v ∧ v ≤ M) : rp tx n K (.inl M :: ps) b e w vs = (false, b, e, w, vs) := by
  rcases hv : nm tx b e with _ | v
  · exact rp_n (by unfold nmM; rw [hv])
  · by_cases hM : M < v
    · exact rp_n (by unfold nmM; rw [hv]; exact if_pos hM)
    · have hnM : nmM tx b e M = some v := by unfold nmM; rw [hv]; exact if_neg hM
      have hlo : ¬ (ltr K M).2 ≤ v := fun q => h ⟨v, hv, q, by omega⟩
      have h4 : K = 4 := Classical.byContradiction (fun q => hlo (by
        have e0 : (ltr K M).2 = 0 := by unfold ltr; rw [if_neg q]; (repeat' split) <;> rfl
        rw [e0]; exact Nat.zero_le _))
      have e1 : (ltr K M).2 = 1 := by unfold ltr; rw [if_pos h4]
      exact rp_vb hnM (Or.inl ⟨h4, by omega⟩)
