/-! A STRINGBUILDER: its object (role r) and its bytes (role r2) -/
theorem fF.setN {S : Nat → Nat → Prop} {h h1 : fH} {a : Nat} {c : fC} (x : fF S h h1) (ha : h a = none) : fF S h (fU h1 a c) := by
  intro a' r o e h' hs
  have hne : a' ≠ a := fun q => by rw [q, ha] at h'; cases h'
  show (if a' = a then some c else h1 a') = _
  rw [if_neg hne]
  exact x a' r o e h' hs
theorem d_le {q w : Nat} (hq : q < 2 ^ 30) (hw : w < 2 ^ 30) : nI q - nI w ≤ 0 ↔ q ≤ w := by
  have e1 : (nI q - nI w).toInt = (q : Int) - w := pk_sub_toInt hq hw
  rw [Int32.le_iff_toInt_le, e1, Int32.toInt_zero]
  omega
theorem nfw : nativeFrameWords "java/lang/System" "arraycopy" 5 = 7 := by decide +kernel
theorem mx_n {a b : Nat} (h : a ≤ b) (hb : b < 2 ^ 31) : (if nI a < nI b then nI b else nI a) = nI b := by
  by_cases q : a < b
  · exact if_pos (nI_lt q hb)
  · rw [show a = b by omega]
    split <;> rfl
theorem mn_n {a b : Nat} (h : a ≤ b) (hb : b < 2 ^ 31) : (if nI b < nI a then nI b else nI a) = nI a := if_neg (nI_nlt h hb)
theorem mn_m {a b : Nat} (h : b ≤ a) (ha : a < 2 ^ 31) : (if nI b < nI a then nI b else nI a) = nI b := by
  by_cases q : b < a
  · exact if_pos (nI_lt q ha)
  · rw [show a = b by omega]
    split <;> rfl
theorem m10 (w : Nat) : (10 : Int32) * -nI w = -nI (w * 10) := by
  rw [Int32.mul_neg, show nI (w * 10) = nI w * nI 10 from (pk_mul w 10).symm, Int32.mul_comm]
  rfl
/-- the capacity behind a growth to q places; its room -/
def gw (mm q : Nat) : Nat := if q ≤ mm then mm else 2 * mm + 2
def gc (mm q : Nat) : Nat := if q ≤ mm then 0 else 1
def gs (mm q : Nat) : Nat := if q ≤ mm then 0 else 2 * mm + 2
theorem gw_y {mm q : Nat} (h : q ≤ mm) : gw mm q = mm := if_pos h
theorem gw_n {mm q : Nat} (h : ¬ q ≤ mm) : gw mm q = 2 * mm + 2 := if_neg h
theorem gc_y {mm q : Nat} (h : q ≤ mm) : gc mm q = 0 := if_pos h
theorem gc_n {mm q : Nat} (h : ¬ q ≤ mm) : gc mm q = 1 := if_neg h
theorem gs_y {mm q : Nat} (h : q ≤ mm) : gs mm q = 0 := if_pos h
theorem gs_n {mm q : Nat} (h : ¬ q ≤ mm) : gs mm q = 2 * mm + 2 := if_neg h
theorem gw_b {mm q : Nat} (h : q ≤ 2 * mm + 2) : q ≤ gw mm q ∧ mm ≤ gw mm q ∧ gw mm q ≤ 2 * mm + 2 := by
  unfold gw
  split <;> omega
theorem gcs_b (mm q : Nat) : gc mm q ≤ 1 ∧ gs mm q ≤ 2 * mm + 2 ∧ gc mm q + mm ≤ gw mm q ∧ gs mm q + 2 * mm ≤ 2 * gw mm q ∧ (gw mm q = mm ∨ mm < q) := by
  unfold gw gc gs
  split <;> omega
def bS (G : gG) (h : fH) (r r2 o a mm n : Nat) (tx : Nat → Nat) : Prop := ∃ (b : Nat) (ml : Int32) (f : Nat → Int32), h a = some (r, o, .inr (9, [.ref b, .int 0, .int ml, .int (nI n)])) ∧ h b = some (r2, o, .inl (G.2.1 3, mm, .inl f)) ∧ sb_Lat tx n f ∧ sb_Fit f ∧ n ≤ mm ∧ 16 ≤ mm ∧ mm ≤ 60000
theorem bS.keepF {G : gG} {h h' : fH} {S : Nat → Nat → Prop} {r r2 o a mm n : Nat} {tx : Nat → Nat} (H : bS G h r r2 o a mm n tx) (hF : fF S h h') (h1 : ¬ S r o) (h2 : ¬ S r2 o) : bS G h' r r2 o a mm n tx := by
  obtain ⟨b, ml, f, g1, g2, g3⟩ := H
  exact ⟨b, ml, f, hF _ _ _ _ g1 h1, hF _ _ _ _ g2 h2, g3⟩
theorem bS.ext {G : gG} {h : fH} {r r2 o a mm n : Nat} {tx tx' : Nat → Nat} (H : bS G h r r2 o a mm n tx) (e : ∀ j, j < n → tx' j = tx j) : bS G h r r2 o a mm n tx' := by
  obtain ⟨b, ml, f, g1, g2, g3, g4⟩ := H
  exact ⟨b, ml, f, g1, g2, fun j hj => by rw [e j hj]; exact g3 j hj, g4⟩
theorem lat_put {tx : Nat → Nat} {n ch : Nat} {f f' : Nat → Int32} (h : sb_Lat tx n f) (hc : ch < 256) (hk : ∀ j, j < n → f' j = f j) (hn : f' n = sb_b ch) : sb_Lat (va_up tx n ch) (n + 1) f' := by
  intro j hj
  by_cases q : j = n
  · subst q
    rw [va_up_self]
    exact ⟨hc, hn⟩
  · rw [va_up_ne _ _ q, hk j (by omega)]
    exact h j (by omega)
/-- the digits' tables -/
def dT (G : gG) (h : fH) : Prop := ∃ (c1 c2 : ClassId) (f1 f2 : Nat → Int32), h (G.2.2.2 100) = some (0, 100, .inl (c1, 100, .inl f1)) ∧ h (G.2.2.2 101) = some (0, 101, .inl (c2, 100, .inl f2)) ∧ gB G c1 ∧ gB G c2 ∧ ∀ k, k < 100 → f1 k = sb_b (48 + k % 10) ∧ f2 k = sb_b (48 + k / 10)
theorem dT.keepX {G : gG} {h h' : fH} {sz : Nat} (H : dT G h) (hX : fX h sz h') : dT G h' := by
  obtain ⟨c1, c2, f1, f2, g1, g2, g3⟩ := H
  exact ⟨c1, c2, f1, f2, hX.1 _ _ _ g1, hX.1 _ _ _ g2, g3⟩
theorem f_dec1 {q : Nat} (h : 0 < q) : nI q + Int32.ofInt (-1) = nI (q - 1) := sb_m1 h
theorem b_b (x : Int32) : x.toInt8.toInt32.toInt8.toInt32 = x.toInt8.toInt32 := by simp
theorem sb_bb (ch : Nat) : (sb_b ch).toInt8.toInt32 = sb_b ch := b_b (nI ch)
theorem inR0 {r o : Nat} : ¬ inR [] r o := by simp [inR]
theorem p10_9 {t : Nat} (h : t ≤ 9) : 10 ^ t ≤ 1000000000 := show 10 ^ t ≤ 10 ^ 9 from Nat.pow_le_pow_right (by decide) h
theorem cl_fit {cA : ClassId} {n : Nat} {f : Nat → Int32} (hf : sb_Fit f) : ∀ (i : Nat) (v : Value), (vp_cell cA (n, .inl f)).slots[i]? = some v → fits .byte v = true := by
  intro i v hv
  have hi : i < n := by
    have := (Array.getElem?_eq_some_iff.mp hv).1
    rw [show (vp_cell cA (n, .inl f)).slots.size = n from arrV_size _ _ _] at this
    exact this
  have h1 : (vp_cell cA (n, .inl f)).slots[i]? = some (.int (f i)) := arrV_read _ _ hi
  rw [h1] at hv
  cases hv
  exact hf i
