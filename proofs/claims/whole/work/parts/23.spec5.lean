/-! rows for the loops over lots -/
def mS0 (G : gG) (h : fH) (mf : Nat → Value) : Prop := ∃ (rs : Int32) (ns : Nat) (sl sr sc : Nat → Nat) (fr ce : Nat), mSt G h mf rs ns sl sr sc fr ce
theorem mSd.s0 {G : gG} {h : fH} {mf : Nat → Value} {rs : Int32} {d : dst} (H : mSd G h mf rs d) : mS0 G h mf := by
  obtain ⟨sl, sr, sc, h1, -⟩ := H
  exact ⟨_, _, _, _, _, _, _, h1⟩
theorem mSt.keep {G : gG} {h h' : fH} {mf mf' : Nat → Value} {rs : Int32} {ns : Nat} {sl sr sc : Nat → Nat} {fr ce : Nat} {S : List Nat} (H : mSt G h mf rs ns sl sr sc fr ce) (hm : ∀ j, 14 ≤ j → j ≤ 20 → mf' j = mf j) (hF : fF (inR S) h h') (hS : S.all (fun r => decide (r < 56 ∨ 58 < r)) = true) : mSt G h' mf' rs ns sl sr sc fr ce := by
  have hs : ∀ r, 56 ≤ r → r ≤ 58 → ¬ r ∈ S := fun r h1 h2 hr => by have := List.all_eq_true.mp hS r hr; simp only [decide_eq_true_eq] at this; omega
  obtain ⟨a15, a16, a17, ⟨v1, v2, v3, v4, v5, v6, v7⟩, ⟨g1, g2, g3⟩⟩ := H
  exact ⟨a15, a16, a17, ⟨by rw [hm 14 (by decide) (by decide)]; exact v1, by rw [hm 15 (by decide) (by decide)]; exact v2, by rw [hm 16 (by decide) (by decide)]; exact v3, by rw [hm 17 (by decide) (by decide)]; exact v4, by rw [hm 18 (by decide) (by decide)]; exact v5, by rw [hm 19 (by decide) (by decide)]; exact v6, by rw [hm 20 (by decide) (by decide)]; exact v7⟩,
    ⟨hF _ _ _ _ g1 (hs _ (by decide) (by decide)), hF _ _ _ _ g2 (hs _ (by decide) (by decide)), hF _ _ _ _ g3 (hs _ (by decide) (by decide))⟩⟩
theorem mS0.keep {G : gG} {h h' : fH} {mf mf' : Nat → Value} {S : List Nat} (H : mS0 G h mf) (hm : ∀ j, 14 ≤ j → j ≤ 20 → mf' j = mf j) (hF : fF (inR S) h h') (hS : S.all (fun r => decide (r < 56 ∨ 58 < r)) = true) : mS0 G h' mf' := by
  obtain ⟨rs, ns, sl, sr, sc, fr, ce, h1⟩ := H
  exact ⟨rs, ns, sl, sr, sc, fr, ce, h1.keep hm hF hS⟩
theorem rkE_open {K : Nat → Option Nat} {F : Nat → Nat → Nat → Option Nat} {V : Nat → Nat → Nat} (h : ¬ (rkE K F V).1 = -1) : (rkE K F V).2 = d0 := by
  unfold rkE at h ⊢
  split
  · rfl
  next g hg =>
  split
  · rfl
  next st hst =>
  split
  · rfl
  next li hli =>
  split
  · rfl
  next rate hra =>
  split
  · rfl
  · next hc => 
    simp only [hg, hst, hli, hra, if_neg hc] at h
    exact absurd trivial h
theorem rk_open {K : Nat → Option Nat} {ed : Option ((Nat → Nat → Nat → Option Nat) × (Nat → Nat → Nat))} (h : ¬ (rk K ed).1 = -1) : (rk K ed).2 = d0 := by
  cases ed with
  | none => rfl
  | some q => exact rkE_open h
theorem lastOf_n {m : Nat} (h : m < 2 ^ 31) : (30 * (nI m).toInt64) + 29 = lN (30 * m + 29) := by
  rw [n_i2l h]
  show lN 30 * lN m + lN 29 = _
  rw [lN_mul, lN_add]
theorem part_01 {pt : Int32} (h1 : ¬ pt < 0) (h2 : pt ≤ 1) : pt = 0 ∨ pt = 1 := by
  rw [Int32.lt_iff_toInt_lt] at h1
  rw [Int32.le_iff_toInt_le] at h2
  have e0 : (0 : Int32).toInt = 0 := by decide
  have e1 : (1 : Int32).toInt = 1 := by decide
  rcases (show pt.toInt = 0 ∨ pt.toInt = 1 by omega) with q | q
  · exact Or.inl (Int32.toInt_inj.mp (by rw [q, e0]))
  · exact Or.inr (Int32.toInt_inj.mp (by rw [q, e1]))
theorem sumL_add {f : Nat → Int64} {n : Nat} {v : Int64} (h : f n = v) : sumL f (n + 1) = sumL f n + v := by
  show sumL f n + f n = _
  rw [h]
theorem sumL_z {f : Nat → Int64} {n : Nat} (h : f n = 0) : sumL f (n + 1) = sumL f n := by
  show sumL f n + f n = _
  rw [h, Int64.add_zero]
theorem sumN_add {f : Nat → Nat} {n v : Nat} (h : f n = v) : sumN f (n + 1) = sumN f n + v := by
  show sumN f n + f n = _
  rw [h]
theorem d0_q (x : Int64) : lN (d0.2.2 / CT) - x = 0 - x := by
  show lN (0 / CT) - x = 0 - x
  rw [Nat.zero_div]
  rfl
