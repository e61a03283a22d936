/-! THE CLASS READS A TEXT, WRITES ITS RULES -/
theorem rp_end {tx : Nat → Nat} {n K : Nat} : ∀ (ps : List (Nat ⊕ Nat)) (b e w : Nat) (vs : List Nat) (b' e' w' : Nat) (vs' : List Nat), e ≤ n → rp tx n K ps b e w vs = (true, b', e', w', vs') → (b' = b ∧ e' = e) ∨ ∃ i, i ≤ n ∧ b' = wb tx n i ∧ e' = we tx n b'
  | [], b, e, w, vs, b', e', w', vs', he, h => by
    rw [rp] at h
    cases h
    exact Or.inl ⟨rfl, rfl⟩
  | .inr x :: ps, b, e, w, vs, b', e', w', vs', he, h => by
    by_cases hx : eqW tx b e x
    · rw [rp_w hx] at h
      rcases rp_end ps _ _ _ _ _ _ _ _ (we_le (wb_le he).2).2 h with ⟨q1, q2⟩ | q
      · exact Or.inr ⟨e, he, q1, by rw [q1]; exact q2⟩
      · exact Or.inr q
    · rw [rp_wn hx] at h; cases h
  | .inl M :: ps, b, e, w, vs, b', e', w', vs', he, h => by
    cases hv : nmM tx b e M with
    | none => rw [rp_n hv] at h; cases h
    | some v =>
      by_cases hb : rbad K vs v
      · rw [rp_vb hv hb] at h; cases h
      · rw [rp_v hv hb] at h
        rcases rp_end ps _ _ _ _ _ _ _ _ (we_le (wb_le he).2).2 h with ⟨q1, q2⟩ | q
        · exact Or.inr ⟨e, he, q1, by rw [q1]; exact q2⟩
        · exact Or.inr q
theorem rule1_end {tx : Nat → Nat} {n b e w b2 e2 w2 : Nat} {L : List rlT} {rl : rlT} (he : e ≤ n) (h : rule1 tx n L b e w = (true, b2, e2, w2, rl)) : b2 < n → b2 < e2 := by
  by_cases hn : r1no (kd tx b e) L
  · rw [rule1_no hn] at h; cases h
  · obtain ⟨q, hq⟩ : ∃ q, rp tx n (kd tx b e) (pl (kd tx b e)) (wb tx n e) (we tx n (wb tx n e)) (w + 1) [] = q := ⟨_, rfl⟩
    rw [rule1_go rfl hn hq] at h
    obtain ⟨q1, q2, q3, q4, q5⟩ := q
    cases h
    intro hb
    rcases rp_end _ _ _ _ _ _ _ _ _ (we_le (wb_le he).2).2 hq with ⟨z1, z2⟩ | ⟨i, hi, z1, z2⟩
    · rw [z1, z2]
      rw [z1] at hb
      exact we_lt he hb
    · rw [z2, z1]
      rw [z1] at hb
      exact we_lt hi hb
/-- a form with its numbers -/
def ofm : List Nat → List Nat → List Nat
  | [], _ => []
  | c :: cs, vs => if 65 ≤ c ∧ c ≤ 90 then dG (vs.headD 0) ++ ofm cs vs.tail else c :: ofm cs vs
/-- the slots of a form's rest -/
def nsl : List Nat → Nat
  | [] => 0
  | c :: cs => (if 65 ≤ c ∧ c ≤ 90 then 1 else 0) + nsl cs
theorem nsl_f : ∀ K, K < 6 → nsl (frm K) = nv K := by decide
theorem ofm_ln {K : Nat} {vs : List Nat} (h : wfR (K, vs)) : ofm (frm K) vs ++ [10] = ln (K, vs) := by
  have hl : vs.length = nv K := h.2.1
  have hK : K < 6 := h.1
  have w0 : wD 0 = [114, 97, 116, 101] := by decide
  have w1 : wD 1 = [115, 109, 97, 108, 108] := by decide
  have w2 : wD 2 = [108, 111, 115, 115] := by decide
  have w3 : wD 3 = [97, 119, 97, 121] := by decide
  have w4 : wD 4 = [114, 111, 117, 110, 100] := by decide
  have w5 : wD 5 = [108, 97, 116, 101] := by decide
  have w6 : wD 6 = [102, 114, 111, 109] := by decide
  have w7 : wD 7 = [116, 111] := by decide
  have w8 : wD 8 = [112, 97, 121] := by decide
  have w9 : wD 9 = [98, 101, 108, 111, 119] := by decide
  have w10 : wD 10 = [116, 105, 109, 101, 115] := by decide
  have w11 : wD 11 = [117, 112, 116, 111] := by decide
  rcases (show K = 0 ∨ K = 1 ∨ K = 2 ∨ K = 3 ∨ K = 4 ∨ K = 5 by omega) with rfl | rfl | rfl | rfl | rfl | rfl
  · match vs, hl with
    | [a, b, c, d], _ => simp [ofm, frm, ln, ob, pl, w0, w6, w7, w8]
  · match vs, hl with
    | [a, b, c], _ => simp [ofm, frm, ln, ob, pl, w1, w9, w10]
  · match vs, hl with
    | [a, b], _ => simp [ofm, frm, ln, ob, pl, w2, w11]
  · match vs, hl with
    | [a, b], _ => simp [ofm, frm, ln, ob, pl, w3, w10]
  · match vs, hl with
    | [a], _ => simp [ofm, frm, ln, ob, pl, w4]
  · match vs, hl with
    | [a], _ => simp [ofm, frm, ln, ob, pl, w5]
theorem dg_le {v n : Nat} (hv : v < 1000000000) (h : v < 10 ^ n) (h1 : 1 ≤ n) : sb_dg v ≤ n := by
  obtain ⟨q1, q2, q3, q4⟩ := dg_pow hv
  refine Nat.le_of_not_lt (fun z => ?_)
  have q5 := q2 (by omega)
  have q6 : 10 ^ n ≤ 10 ^ (sb_dg v - 1) := Nat.pow_le_pow_right (by decide) (by omega)
  omega
theorem ln_40 {K : Nat} {vs : List Nat} (h : wfR (K, vs)) : (ln (K, vs)).length ≤ 40 := by
  have hl : vs.length = nv K := h.2.1
  have hK : K < 6 := h.1
  have ho := h.2.2
  rcases (show K = 0 ∨ K = 1 ∨ K = 2 ∨ K = 3 ∨ K = 4 ∨ K = 5 by omega) with rfl | rfl | rfl | rfl | rfl | rfl
  · match vs, hl with
    | [a, b, c, d], _ =>
      simp [okR] at ho
      have h1 := dg_le (v := a) (n := 1) (by omega) (by omega) (by decide)
      have h2 := dg_le (v := b) (n := 5) (by omega) (by omega) (by decide)
      have h3 := dg_le (v := c) (n := 5) (by omega) (by omega) (by decide)
      have h4 := dg_le (v := d) (n := 7) (by omega) (by omega) (by decide)
      simp [ln, ob, pl, wD, wDk_l, dG, dGk_l, wL]
      omega
  · match vs, hl with
    | [a, b, c], _ =>
      simp [okR] at ho
      have h1 := dg_le (v := a) (n := 1) (by omega) (by omega) (by decide)
      have h2 := dg_le (v := b) (n := 9) (by omega) (by omega) (by decide)
      have h3 := dg_le (v := c) (n := 3) (by omega) (by omega) (by decide)
      simp [ln, ob, pl, wD, wDk_l, dG, dGk_l, wL]
      omega
  · match vs, hl with
    | [a, b], _ =>
      simp [okR] at ho
      have h1 := dg_le (v := a) (n := 1) (by omega) (by omega) (by decide)
      have h2 := dg_le (v := b) (n := 3) (by omega) (by omega) (by decide)
      simp [ln, ob, pl, wD, wDk_l, dG, dGk_l, wL]
      omega
  · match vs, hl with
    | [a, b], _ =>
      simp [okR] at ho
      have h1 := dg_le (v := a) (n := 1) (by omega) (by omega) (by decide)
      have h2 := dg_le (v := b) (n := 3) (by omega) (by omega) (by decide)
      simp [ln, ob, pl, wD, wDk_l, dG, dGk_l, wL]
      omega
  · match vs, hl with
    | [a], _ =>
      simp [okR] at ho
      have h1 := dg_le (v := a) (n := 4) (by omega) (by omega) (by decide)
      simp [ln, ob, pl, wD, wDk_l, dG, dGk_l, wL]
      omega
  · match vs, hl with
    | [a], _ =>
      simp [okR] at ho
      have h1 := dg_le (v := a) (n := 3) (by omega) (by omega) (by decide)
      simp [ln, ob, pl, wD, wDk_l, dG, dGk_l, wL]
      omega
theorem ot_40 : ∀ (L : List rlT), (∀ r ∈ L, wfR r) → (ot L).length ≤ 40 * L.length
  | [], _ => by simp [ot]
  | (K, vs) :: L, h => by
    have h1 := ot_40 L (fun q hq => h q (List.mem_cons_of_mem _ hq))
    have h2 := ln_40 (h (K, vs) List.mem_cons_self)
    simp [ot] at h1 ⊢
    omega
/-- a builder with a list as its text -/
def bL (G : gG) (h : fH) (r r2 a mm : Nat) (W : List Nat) : Prop := bS G h r r2 0 a mm W.length (fun j => W.getD j 0)
theorem bL_c {G : gG} {h : fH} {r r2 a mm ch : Nat} {W : List Nat} (H : bS G h r r2 0 a mm (W.length + 1) (va_up (fun j => W.getD j 0) W.length ch)) : bL G h r r2 a mm (W ++ [ch]) := by
  unfold bL
  rw [List.length_append]
  refine H.ext (fun j hj => ?_)
  by_cases e : j = W.length
  · subst e
    rw [va_up_self, List.getD_eq_getElem?_getD, List.getElem?_append_right (Nat.le_refl _), Nat.sub_self]
    rfl
  · have hj2 : j < W.length + 1 := hj
    rw [va_up_ne _ _ e, List.getD_eq_getElem?_getD, List.getElem?_append_left (by omega), List.getD_eq_getElem?_getD]
theorem bL_i {G : gG} {h : fH} {r r2 a mm v : Nat} {W : List Nat} (H : bS G h r r2 0 a mm (W.length + sb_dg v) (sb_cat (fun j => W.getD j 0) W.length (sb_dec v))) : bL G h r r2 a mm (W ++ dG v) := by
  unfold bL
  rw [List.length_append, show (dG v).length = sb_dg v from dGk_l v (sb_dg v)]
  refine H.ext (fun j hj => ?_)
  unfold sb_cat
  by_cases e : j < W.length
  · rw [if_pos e, List.getD_eq_getElem?_getD, List.getElem?_append_left e]
    exact (List.getD_eq_getElem?_getD ..).symm
  · rw [if_neg e, List.getD_eq_getElem?_getD, List.getElem?_append_right (by omega)]
    unfold dG dGk
    rw [List.getElem?_map, List.getElem?_range (by omega)]
    rfl
/-- a builder's room by its capacity -/
def rI (mm w cs ss : Nat) : Prop := mm ≤ 16 + 2 * w ∧ 16 ≤ mm ∧ (∃ g, 16 * 2 ^ g ≤ mm ∧ cs ≤ 2 + g) ∧ ss ≤ 20 + 2 * mm
theorem rI_b {mm w cs ss : Nat} (h : rI mm w cs ss) (hw : w ≤ 1640) : cs ≤ 9 ∧ ss ≤ 6612 ∧ mm ≤ 3296 := by
  obtain ⟨h1, h2, ⟨g, h3, h4⟩, h5⟩ := h
  have hg : g ≤ 7 := Nat.le_of_not_lt (fun z => by
    have : 2 ^ 8 ≤ 2 ^ g := Nat.pow_le_pow_right (by decide) z
    omega)
  omega
theorem rI_g {mm w d cs ss : Nat} (h : rI mm w cs ss) (hd : w + d ≤ 2 * mm + 2) : rI (gw mm (w + d)) (w + d) (cs + gc mm (w + d)) (ss + gs mm (w + d)) := by
  obtain ⟨h1, h2, ⟨g, h3, h4⟩, h5⟩ := h
  unfold gw gc gs
  by_cases q : w + d ≤ mm
  · rw [if_pos q, if_pos q, if_pos q]
    exact ⟨by omega, h2, ⟨g, h3, h4⟩, h5⟩
  · rw [if_neg q, if_neg q, if_neg q]
    exact ⟨by omega, by omega, ⟨g + 1, by rw [Nat.pow_succ]; omega, by omega⟩, by omega⟩
theorem ofm_s {c : Nat} {cs vs : List Nat} (h : 65 ≤ c ∧ c ≤ 90) : ofm (c :: cs) vs = dG (vs.headD 0) ++ ofm cs vs.tail := by rw [ofm]; exact if_pos h
theorem ofm_n {c : Nat} {cs vs : List Nat} (h : ¬ (65 ≤ c ∧ c ≤ 90)) : ofm (c :: cs) vs = c :: ofm cs vs := by rw [ofm]; exact if_neg h
theorem frm_drop {K j : Nat} (h : j < fn K) : (frm K).drop j = fx K j :: (frm K).drop (j + 1) := by
  unfold fx
  rw [List.drop_eq_getElem_cons h, List.getD_eq_getElem?_getD, List.getElem?_eq_getElem h]
  rfl
theorem rI_b2 {mm w cs ss : Nat} (h : rI mm w cs ss) (hw : w ≤ 1700) : cs ≤ 9 ∧ ss ≤ 6852 ∧ mm ≤ 3416 := by
  obtain ⟨h1, h2, ⟨g, h3, h4⟩, h5⟩ := h
  have hg : g ≤ 7 := Nat.le_of_not_lt (fun z => by
    have : 2 ^ 8 ≤ 2 ^ g := Nat.pow_le_pow_right (by decide) z
    omega)
  omega
