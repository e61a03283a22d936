/-- a choice by a proposition -/
noncomputable def ifP {α : Type} (P : Prop) (x y : α) : α := @ite α P (Classical.propDecidable P) x y
theorem ifP_t {α : Type} {P : Prop} {x y : α} (h : P) : ifP P x y = x := @if_pos P (Classical.propDecidable P) h α x y
theorem ifP_f {α : Type} {P : Prop} {x y : α} (h : ¬ P) : ifP P x y = y := @if_neg P (Classical.propDecidable P) h α x y
/-! THE RULES AS THEY ARE READ: a rule's parts (a number's greatest value, or a word), a rule's rest, a rule, a text -/
def pl : Nat → List (Nat ⊕ Nat)
  | 0 => [.inl 9, .inr 6, .inl 10000, .inr 7, .inl 10000, .inr 8, .inl 1000000, .inr 12]
  | 1 => [.inl 9, .inr 9, .inl 100000000, .inr 10, .inl 100, .inr 12]
  | 2 => [.inl 9, .inr 11, .inl 100, .inr 12]
  | 3 => [.inl 9, .inr 10, .inl 100, .inr 12]
  | 4 => [.inl 1000, .inr 12]
  | _ => [.inl 100, .inr 12]
def plg (K k : Nat) : Nat ⊕ Nat := (pl K).getD k (.inr 12)
def plL (K : Nat) : Nat := (pl K).length
/-- the numbers among the first k parts -/
def vl (K k : Nat) : Nat := (((pl K).take k).filter (fun x => x.isLeft)).length
def nv (K : Nat) : Nat := [4, 3, 2, 2, 1, 1].getD K 0
def pv : Nat ⊕ Nat → Int32
  | .inl M => nI M
  | .inr w => -nI (100 + w)
theorem pv_w : ∀ w, w < 13 → (-100 : Int32) - pv (.inr w) = nI w ∧ pv (.inr w) < 0 := by decide
theorem pv_12 : ∀ w, w < 13 → (pv (.inr w) = -112 ↔ w = 12) := by decide
theorem plg_ok : ∀ K, K < 6 → plL K ≤ 8 ∧ vl K 0 = 0 ∧ vl K (plL K) = nv K ∧ nv K ≤ 4 ∧ 2 ≤ plL K := by decide
def plgB (K k : Nat) : Bool := match plg K k with
  | .inl M => decide (vl K k < nv K ∧ vl K (k + 1) = vl K k + 1 ∧ M ≤ 100000000 ∧ k + 1 < plL K)
  | .inr w => decide (w < 13 ∧ vl K (k + 1) = vl K k ∧ (w = 12 ↔ k + 1 = plL K))
theorem plgB_t : ∀ K, K < 6 → ∀ k, k < 8 → k < plL K → plgB K k = true := by decide
theorem plg_l {K k M : Nat} (hK : K < 6) (hk : k < plL K) (h : plg K k = .inl M) : vl K k < nv K ∧ vl K (k + 1) = vl K k + 1 ∧ M ≤ 100000000 ∧ k + 1 < plL K := by
  have h1 := plgB_t K hK k (by have := (plg_ok K hK).1; omega) hk
  unfold plgB at h1
  rw [h] at h1
  exact of_decide_eq_true h1
theorem plg_r {K k w : Nat} (hK : K < 6) (hk : k < plL K) (h : plg K k = .inr w) : w < 13 ∧ vl K (k + 1) = vl K k ∧ (w = 12 ↔ k + 1 = plL K) := by
  have h1 := plgB_t K hK k (by have := (plg_ok K hK).1; omega) hk
  unfold plgB at h1
  rw [h] at h1
  exact of_decide_eq_true h1
theorem pl_drop {K k : Nat} (h : k < plL K) : (pl K).drop k = plg K k :: (pl K).drop (k + 1) := by
  unfold plg
  rw [List.drop_eq_getElem_cons h, List.getD_eq_getElem?_getD, List.getElem?_eq_getElem h]
  rfl
def rbad (K : Nat) (vs : List Nat) (v : Nat) : Prop := (K = 4 ∧ v = 0) ∨ (K = 0 ∧ vs.length = 2 ∧ v ≤ vs.getD 1 0)
abbrev rpT : Type := Bool × Nat × Nat × Nat × List Nat
noncomputable def rp (tx : Nat → Nat) (n K : Nat) : List (Nat ⊕ Nat) → Nat → Nat → Nat → List Nat → rpT
  | [], b, e, w, vs => (true, b, e, w, vs)
  | .inr x :: ps, b, e, w, vs => ifP (eqW tx b e x) (rp tx n K ps (wb tx n e) (we tx n (wb tx n e)) (w + 1) vs) (false, b, e, w, vs)
  | .inl M :: ps, b, e, w, vs => match nmM tx b e M with
    | none => (false, b, e, w, vs)
    | some v => ifP (rbad K vs v) (false, b, e, w, vs) (rp tx n K ps (wb tx n e) (we tx n (wb tx n e)) (w + 1) (vs ++ [v]))
theorem rp_w {tx : Nat → Nat} {n K x b e w : Nat} {ps : List (Nat ⊕ Nat)} {vs : List Nat} (h : eqW tx b e x) : rp tx n K (.inr x :: ps) b e w vs = rp tx n K ps (wb tx n e) (we tx n (wb tx n e)) (w + 1) vs := by rw [rp]; exact ifP_t h
theorem rp_wn {tx : Nat → Nat} {n K x b e w : Nat} {ps : List (Nat ⊕ Nat)} {vs : List Nat} (h : ¬ eqW tx b e x) : rp tx n K (.inr x :: ps) b e w vs = (false, b, e, w, vs) := by rw [rp]; exact ifP_f h
theorem rp_n {tx : Nat → Nat} {n K M b e w : Nat} {ps : List (Nat ⊕ Nat)} {vs : List Nat} (h : nmM tx b e M = none) : rp tx n K (.inl M :: ps) b e w vs = (false, b, e, w, vs) := by rw [rp, h]
theorem rp_v {tx : Nat → Nat} {n K M b e w v : Nat} {ps : List (Nat ⊕ Nat)} {vs : List Nat} (h : nmM tx b e M = some v) (hb : ¬ rbad K vs v) : rp tx n K (.inl M :: ps) b e w vs = rp tx n K ps (wb tx n e) (we tx n (wb tx n e)) (w + 1) (vs ++ [v]) := by rw [rp, h]; exact ifP_f hb
theorem rp_vb {tx : Nat → Nat} {n K M b e w v : Nat} {ps : List (Nat ⊕ Nat)} {vs : List Nat} (h : nmM tx b e M = some v) (hb : rbad K vs v) : rp tx n K (.inl M :: ps) b e w vs = (false, b, e, w, vs) := by rw [rp, h]; exact ifP_t hb
/-- the kind that the word from b to e begins; 6: none -/
noncomputable def kd (tx : Nat → Nat) (b e : Nat) : Nat := fi (fun w => @decide (eqW tx b e w) (Classical.propDecidable _)) 0 6
abbrev rlT : Type := Nat × List Nat
abbrev r1T : Type := Bool × Nat × Nat × Nat × rlT
def r1no (K : Nat) (L : List rlT) : Prop := K = 6 ∨ L.length = 40 ∨ (4 ≤ K ∧ ∃ r ∈ L, r.1 = K)
noncomputable def rule1 (tx : Nat → Nat) (n : Nat) (L : List rlT) (b e w : Nat) : r1T :=
  ifP (r1no (kd tx b e) L) (false, b, e, w, (0, [])) ((rp tx n (kd tx b e) (pl (kd tx b e)) (wb tx n e) (we tx n (wb tx n e)) (w + 1) []).1, (rp tx n (kd tx b e) (pl (kd tx b e)) (wb tx n e) (we tx n (wb tx n e)) (w + 1) []).2.1, (rp tx n (kd tx b e) (pl (kd tx b e)) (wb tx n e) (we tx n (wb tx n e)) (w + 1) []).2.2.1, (rp tx n (kd tx b e) (pl (kd tx b e)) (wb tx n e) (we tx n (wb tx n e)) (w + 1) []).2.2.2.1, (kd tx b e, (rp tx n (kd tx b e) (pl (kd tx b e)) (wb tx n e) (we tx n (wb tx n e)) (w + 1) []).2.2.2.2))
theorem rule1_no {tx : Nat → Nat} {n b e w : Nat} {L : List rlT} (h : r1no (kd tx b e) L) : rule1 tx n L b e w = (false, b, e, w, (0, [])) := by unfold rule1; exact ifP_t h
theorem rule1_go {tx : Nat → Nat} {n b e w K : Nat} {L : List rlT} {q : rpT} (hK : kd tx b e = K) (h : ¬ r1no K L) (hq : rp tx n K (pl K) (wb tx n e) (we tx n (wb tx n e)) (w + 1) [] = q) : rule1 tx n L b e w = (q.1, q.2.1, q.2.2.1, q.2.2.2.1, (K, q.2.2.2.2)) := by
  subst hK
  unfold rule1
  rw [ifP_f h, hq]
noncomputable def rdS (tx : Nat → Nat) (n : Nat) : Nat → List rlT → Nat → Nat → Nat → Bool × Nat × List rlT
  | 0, L, _, _, w => (true, w, L)
  | k + 1, L, b, e, w => if b < n then (if (rule1 tx n L b e w).1 = true then rdS tx n k (L ++ [(rule1 tx n L b e w).2.2.2.2]) (rule1 tx n L b e w).2.1 (rule1 tx n L b e w).2.2.1 (rule1 tx n L b e w).2.2.2.1 else (false, (rule1 tx n L b e w).2.2.2.1, L)) else (true, w, L)
/-- a text, read: whether it is good, the number of the last word looked at, the rules -/
noncomputable def rd (tx : Nat → Nat) (n : Nat) : Bool × Nat × List rlT := rdS tx n 41 [] (wb tx n 0) (we tx n (wb tx n 0)) 0
theorem rdS_end {tx : Nat → Nat} {n k b e w : Nat} {L : List rlT} (h : ¬ b < n) : rdS tx n k L b e w = (true, w, L) := by
  cases k with
  | zero => rfl
  | succ k => unfold rdS; exact if_neg h
theorem rdS_ok {tx : Nat → Nat} {n k b e w b' e' w' : Nat} {L : List rlT} {r : rlT} (h : b < n) (hr : rule1 tx n L b e w = (true, b', e', w', r)) : rdS tx n (k + 1) L b e w = rdS tx n k (L ++ [r]) b' e' w' := by
  rw [rdS, if_pos h, hr]
  exact if_pos rfl
theorem rdS_bad {tx : Nat → Nat} {n k b e w b' e' w' : Nat} {L : List rlT} {r : rlT} (h : b < n) (hr : rule1 tx n L b e w = (false, b', e', w', r)) : rdS tx n (k + 1) L b e w = (false, w', L) := by
  rw [rdS, if_pos h, hr]
  exact if_neg (fun q => by cases q)
/-! what is read is in its ranges -/
def ok1 (K : Nat) : List (Nat ⊕ Nat) → List Nat → Prop
  | [], vs => vs = []
  | .inr _ :: ps, vs => ok1 K ps vs
  | .inl M :: ps, vs => ∃ v ws, vs = v :: ws ∧ v ≤ M ∧ (K = 4 → v ≠ 0) ∧ ok1 K ps ws
theorem nmM_le {tx : Nat → Nat} {b e M v : Nat} (h : nmM tx b e M = some v) : v ≤ M := by
  unfold nmM at h
  split at h
  · cases h
  · split at h
    · cases h
    · next h2 => cases h; omega
theorem rp_ok1 {tx : Nat → Nat} {n K : Nat} : ∀ (ps : List (Nat ⊕ Nat)) (b e w : Nat) (v0 : List Nat) (b' e' w' : Nat) (vs : List Nat), rp tx n K ps b e w v0 = (true, b', e', w', vs) → ∃ ws, vs = v0 ++ ws ∧ ok1 K ps ws
  | [], b, e, w, v0, b', e', w', vs, h => by
    rw [rp] at h
    cases h
    exact ⟨[], by simp, rfl⟩
  | .inr x :: ps, b, e, w, v0, b', e', w', vs, h => by
    by_cases hx : eqW tx b e x
    · rw [rp_w hx] at h
      exact rp_ok1 ps _ _ _ _ _ _ _ _ h
    · rw [rp_wn hx] at h; cases h
  | .inl M :: ps, b, e, w, v0, b', e', w', vs, h => by
    cases hv : nmM tx b e M with
    | none => rw [rp_n hv] at h; cases h
    | some v =>
      by_cases hb : rbad K v0 v
      · rw [rp_vb hv hb] at h; cases h
      · rw [rp_v hv hb] at h
        obtain ⟨ws, h1, h2⟩ := rp_ok1 ps _ _ _ _ _ _ _ _ h
        exact ⟨v :: ws, by rw [h1]; simp, v, ws, rfl, nmM_le hv, fun q z => hb (Or.inl ⟨q, z⟩), h2⟩
def wfR (r : rlT) : Prop := r.1 < 6 ∧ r.2.length = nv r.1 ∧ okR r.1 (r.2.getD 0 0) (r.2.getD 1 0) (r.2.getD 2 0) (r.2.getD 3 0)
theorem ok1_wf {K : Nat} {vs : List Nat} (hK : K < 6) (h : ok1 K (pl K) vs) : wfR (K, vs) := by
  rcases (show K = 0 ∨ K = 1 ∨ K = 2 ∨ K = 3 ∨ K = 4 ∨ K = 5 by omega) with rfl | rfl | rfl | rfl | rfl | rfl
  · obtain ⟨a, _, rfl, ha, -, b, _, rfl, hb, -, c, _, rfl, hc, -, d, _, rfl, hd, -, rfl⟩ := h
    exact ⟨by show _ < 6; omega, rfl, by unfold okR; simp; omega⟩
  · obtain ⟨a, _, rfl, ha, -, b, _, rfl, hb, -, c, _, rfl, hc, -, rfl⟩ := h
    exact ⟨by show _ < 6; omega, rfl, by unfold okR; simp; omega⟩
  · obtain ⟨a, _, rfl, ha, -, b, _, rfl, hb, -, rfl⟩ := h
    exact ⟨by show _ < 6; omega, rfl, by unfold okR; simp; omega⟩
  · obtain ⟨a, _, rfl, ha, -, b, _, rfl, hb, -, rfl⟩ := h
    exact ⟨by show _ < 6; omega, rfl, by unfold okR; simp; omega⟩
  · obtain ⟨a, _, rfl, ha, h0, rfl⟩ := h
    have h0 := h0 rfl
    exact ⟨by show _ < 6; omega, rfl, by unfold okR; simp; omega⟩
  · obtain ⟨a, _, rfl, ha, -, rfl⟩ := h
    exact ⟨by show _ < 6; omega, rfl, by unfold okR; simp; omega⟩
theorem rp_wf {tx : Nat → Nat} {n K b e w b' e' w' : Nat} {vs : List Nat} (hK : K < 6) (h : rp tx n K (pl K) b e w [] = (true, b', e', w', vs)) : wfR (K, vs) := by
  obtain ⟨ws, h1, h2⟩ := rp_ok1 _ _ _ _ _ _ _ _ _ h
  rw [List.nil_append] at h1
  rw [h1]
  exact ok1_wf hK h2
/-! rules in an array, five places each -/
def rep5 (f : Nat → Nat) (L : List rlT) : Prop := ∀ (j : Nat) (r : rlT), L[j]? = some r → f (5 * j) = r.1 ∧ (∀ i, i < r.2.length → f (5 * j + (i + 1)) = r.2.getD i 0) ∧ wfR r
theorem rep5_0 (f : Nat → Nat) : rep5 f [] := fun j r h => by simp at h
theorem wfR_4 {r : rlT} (h : wfR r) : r.2.length ≤ 4 := by
  rw [h.2.1]
  exact (plg_ok r.1 h.1).2.2.2.1
theorem rep5_up {f : Nat → Nat} {L : List rlT} {q v : Nat} (h : rep5 f L) (hq : 5 * L.length ≤ q) : rep5 (va_up f q v) L := by
  intro j r hj
  obtain ⟨h1, h2, h3⟩ := h j r hj
  have hl := (List.getElem?_eq_some_iff.mp hj).1
  have h4 := wfR_4 h3
  exact ⟨by rw [va_up_ne _ _ (by omega)]; exact h1, fun i hi => by rw [va_up_ne _ _ (by omega)]; exact h2 i hi, h3⟩
theorem rep5_add {f : Nat → Nat} {L : List rlT} {r : rlT} (h : rep5 f L) (h1 : f (5 * L.length) = r.1) (h2 : ∀ i, i < r.2.length → f (5 * L.length + (i + 1)) = r.2.getD i 0) (h3 : wfR r) : rep5 f (L ++ [r]) := by
  intro j q hj
  by_cases hl : j < L.length
  · rw [List.getElem?_append_left hl] at hj
    exact h j q hj
  · rw [List.getElem?_append_right (by omega)] at hj
    have hz : j - L.length < 1 := (List.getElem?_eq_some_iff.mp hj).1
    have hj2 : j = L.length := by omega
    subst hj2
    rw [Nat.sub_self] at hj
    cases hj
    exact ⟨h1, h2, h3⟩
def mRd (G : gG) (h : fH) (mf : Nat → Value) (rg : Nat → Nat) : Prop := ∃ a2 : Nat, mf 2 = .ref a2 ∧ h a2 = some (43, 0, .inl (G.2.1 0, 200, .inl (fun i => nI (rg i)))) ∧ ∀ i, rg i ≤ 100000000
theorem mRd.keep {G : gG} {h h' : fH} {mf mf' : Nat → Value} {rg : Nat → Nat} {S : List Nat} (H : mRd G h mf rg) (hm : ∀ j, 2 ≤ j → j ≤ 2 → mf' j = mf j) (hF : fF (inR S) h h') (hS : S.all (fun r => decide (r < 43 ∨ 43 < r)) = true) : mRd G h' mf' rg := by
  obtain ⟨a2, v1, g1, b⟩ := H
  exact ⟨a2, by rw [hm 2 (by decide) (by decide)]; exact v1, hF _ _ _ _ g1 (fun hr => by have := List.all_eq_true.mp hS 43 hr; simp at this), b⟩
/-- whether a kind that may stand once stands among the first i rules -/
def tw (f : Nat → Nat) (K i : Nat) : Prop := 4 ≤ K ∧ ∃ j, j < i ∧ f (5 * j) = K
theorem tw_s {f : Nat → Nat} {K i : Nat} (h : ¬ tw f K i) (h2 : ¬ (4 ≤ K ∧ f (5 * i) = K)) : ¬ tw f K (i + 1) := by
  rintro ⟨h3, j, h4, h5⟩
  by_cases hj : j = i
  · subst hj; exact h2 ⟨h3, h5⟩
  · exact h ⟨h3, j, by omega, h5⟩
theorem tw_m {f : Nat → Nat} {K i : Nat} (h : tw f K i) : tw f K (i + 1) := ⟨h.1, h.2.choose, by have := h.2.choose_spec.1; omega, h.2.choose_spec.2⟩
theorem tw_L {f : Nat → Nat} {K : Nat} {L : List rlT} (h : rep5 f L) : tw f K L.length ↔ (4 ≤ K ∧ ∃ r ∈ L, r.1 = K) := by
  constructor
  · rintro ⟨h1, j, h2, h3⟩
    exact ⟨h1, L[j], List.getElem_mem h2, by rw [← (h j L[j] (List.getElem?_eq_getElem h2)).1]; exact h3⟩
  · rintro ⟨h1, r, h2, h3⟩
    obtain ⟨j, hj⟩ := List.getElem?_of_mem h2
    exact ⟨h1, j, (List.getElem?_eq_some_iff.mp hj).1, by rw [(h j r hj).1]; exact h3⟩
def partT (a b : Int32) : Int32 := (if a.toInt = 0 then (if b = 0 then 9 else (if b = 1 then (-106) else (if b = 2 then 10000 else (if b = 3 then (-107) else (if b = 4 then 10000 else (if b = 5 then (-108) else (if b = 6 then 1000000 else (-112)))))))) else (if a.toInt = 1 then (if b = 0 then 9 else (if b = 1 then (-109) else (if b = 2 then 100000000 else (if b = 3 then (-110) else (if b = 4 then 100 else (-112)))))) else (if a.toInt = 2 then (if b = 0 then 9 else (if b = 1 then (-111) else (if b = 2 then 100 else (-112)))) else (if a.toInt = 3 then (if b = 0 then 9 else (if b = 1 then (-110) else (if b = 2 then 100 else (-112)))) else (if a.toInt = 4 then (if b = 0 then 1000 else (-112)) else (if b = 0 then 100 else (-112)))))))
theorem part_n : ∀ K, K < 6 → ∀ k, k < 8 → k < plL K → partT (nI K) (nI k) = pv (plg K k) := by decide
