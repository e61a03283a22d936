/-! bounds of a duty -/
theorem sB_le {li pay : Nat} {a b : Option Nat} {V : Nat → Nat → Nat} {d : dst} : (sB li pay a b V d).2.2 ≤ d.2.2 ∧ (sB li pay a b V d).1.length ≤ d.1.length + 1 := by
  unfold sB
  split
  · unfold sB1
    exact ⟨Nat.sub_le _ _, by simp⟩
  · exact ⟨Nat.le_refl _, Nat.le_succ _⟩
theorem sB_fr {li pay : Nat} {a b : Option Nat} {V : Nat → Nat → Nat} {d : dst} (h : ∀ v, a = some v → v ≤ 1000000) (hd : d.2.1 ≤ 100000000) : (sB li pay a b V d).2.1 ≤ 100000000 := by
  unfold sB
  split
  · next v r => 
    unfold sB1
    have := h v rfl
    have h2 : min (v * 100) (li * V r 2) ≤ v * 100 := Nat.min_le_left _ _
    show min (v * 100) (li * V r 2) ≤ 100000000
    omega
  · exact hd
theorem sC_le {li pay : Nat} {a b : Option Nat} {V : Nat → Nat → Nat} {d : dst} : (sC li pay a b V d).2.2 ≤ d.2.2 ∧ (sC li pay a b V d).1.length ≤ d.1.length + 1 ∧ (sC li pay a b V d).2.1 = d.2.1 := by
  unfold sC
  split
  · unfold sC1
    exact ⟨Nat.sub_le _ _, by simp, rfl⟩
  · exact ⟨Nat.le_refl _, Nat.le_succ _, rfl⟩
theorem sD_le {a b : Option Nat} {V : Nat → Nat → Nat} {d : dst} (h : ∀ r, a = some r → V r 3 ≤ 100) : (sD a b V d).2.2 ≤ d.2.2 ∧ (sD a b V d).1.length ≤ d.1.length + 1 ∧ (sD a b V d).2.1 = d.2.1 := by
  unfold sD
  split
  · next r y =>
    split
    · unfold sD1
      refine ⟨?_, by simp, rfl⟩
      have h1 : d.2.2 / 100 * V r 3 ≤ d.2.2 / 100 * 100 := Nat.mul_le_mul_left _ (h r rfl)
      have h2 : d.2.2 / 100 * 100 ≤ d.2.2 := Nat.div_mul_le_self _ _
      show d.2.2 / 100 * V r 3 ≤ d.2.2
      omega
    · exact ⟨Nat.le_refl _, Nat.le_succ _, rfl⟩
  · exact ⟨Nat.le_refl _, Nat.le_succ _, rfl⟩
theorem sE1_le {n r : Nat} {d : dst} (h2 : n ≤ 1000) : (sE1 n r d).2.2 ≤ 2 * d.2.2 + 100000000000000 := by
  have h1 := half_le (2 * d.2.2 + n * CT) (n * CT)
  have h3 : n * CT ≤ 100000000000000 := by unfold CT; omega
  exact Nat.le_trans h1 (Nat.add_le_add_left h3 _)
theorem sE_some (r : Nat) (V : Nat → Nat → Nat) (d : dst) : sE (some r) V d = sE1 (V r 1) r d := rfl
theorem sE_none (V : Nat → Nat → Nat) (d : dst) : sE none V d = d := rfl
theorem sE1_len (n r : Nat) (d : dst) : (sE1 n r d).1.length = d.1.length + 1 := by unfold sE1; simp
theorem pr21 (Y : List (Nat × Nat × Nat)) (a X : Nat) : ((Y, a, X) : dst).2.1 = a := rfl
theorem sE1_fr (n r : Nat) (d : dst) : (sE1 n r d).2.1 = d.2.1 := by
  unfold sE1
  exact pr21 _ _ _
theorem sE_le {a : Option Nat} {V : Nat → Nat → Nat} {d : dst} (h : ∀ r, a = some r → V r 1 ≤ 1000) : (sE a V d).2.2 ≤ 2 * d.2.2 + 100000000000000 ∧ (sE a V d).1.length ≤ d.1.length + 1 ∧ (sE a V d).2.1 = d.2.1 := by
  cases a with
  | some r =>
    rw [sE_some, sE1_len, sE1_fr]
    exact ⟨sE1_le (h r rfl), Nat.le_refl _, rfl⟩
  | none =>
    rw [sE_none]
    exact ⟨by omega, by omega, rfl⟩
/-- facts and rules in their ranges -/
def okK (K : Nat → Option Nat) : Prop := ∀ k v, k < 6 → K k = some v → v ≤ mostN k
def okF (F : Nat → Nat → Nat → Option Nat) (V : Nat → Nat → Nat) : Prop := ∀ k g s r, F k g s = some r → okR k (V r 1) (V r 2) (V r 3) (V r 4)
theorem rkE_bd {K : Nat → Option Nat} {F : Nat → Nat → Nat → Option Nat} {V : Nat → Nat → Nat} (hK : okK K) (hF : okF F V) : (rkE K F V).2.2.2 ≤ 2100000000000000000 ∧ (rkE K F V).2.2.1 ≤ 100000000 ∧ (rkE K F V).2.1.length ≤ 5 := by
  unfold rkE
  split
  · exact ⟨Nat.zero_le _, Nat.zero_le _, Nat.zero_le _⟩
  next g hg =>
  split
  · exact ⟨Nat.zero_le _, Nat.zero_le _, Nat.zero_le _⟩
  next st hst =>
  split
  · exact ⟨Nat.zero_le _, Nat.zero_le _, Nat.zero_le _⟩
  next li hli =>
  split
  · exact ⟨Nat.zero_le _, Nat.zero_le _, Nat.zero_le _⟩
  next rate hra =>
  split
  · exact ⟨Nat.zero_le _, Nat.zero_le _, Nat.zero_le _⟩
  · have b1 := hK 2 li (by decide) hli
    have b2 := (hF 0 g st rate hra).2.2.1 rfl
    have e1 : li ≤ 1000000 := b1
    have h0 : li * V rate 4 ≤ 1000000 * 1000000 := mulle e1 b2.2.2
    show (rkS K F V g li rate).2.2 ≤ _ ∧ (rkS K F V g li rate).2.1 ≤ _ ∧ (rkS K F V g li rate).1.length ≤ _
    unfold rkS
    have hB := sB_le (li := li) (pay := V rate 4) (a := K 4) (b := F 2 g 0) (V := V) (d := sA li (V rate 4) rate)
    have hBf := sB_fr (li := li) (pay := V rate 4) (a := K 4) (b := F 2 g 0) (V := V) (d := sA li (V rate 4) rate) (fun v hv => hK 4 v (by decide) hv) (Nat.zero_le _)
    have hAc : (sA li (V rate 4) rate).2.2 = li * V rate 4 * 1000000 := rfl
    have hAl : (sA li (V rate 4) rate).1.length = 1 := rfl
    generalize sB li (V rate 4) (K 4) (F 2 g 0) V (sA li (V rate 4) rate) = dB at *
    have hC := sC_le (li := li) (pay := V rate 4) (a := K 5) (b := F 3 g 0) (V := V) (d := dB)
    generalize sC li (V rate 4) (K 5) (F 3 g 0) V dB = dC at *
    have hD := sD_le (a := F 1 g 0) (b := K 3) (V := V) (d := dC) (fun r hr => ((hF 1 g 0 r hr).2.2.2.1 rfl).2)
    generalize sD (F 1 g 0) (K 3) V dC = dD at *
    have hE := sE_le (a := F 4 0 0) (V := V) (d := dD) (fun r hr => ((hF 4 0 0 r hr).2.2.2.2.2.2.1 rfl).2)
    generalize sE (F 4 0 0) V dD = dE at *
    omega
theorem rk_bd {K : Nat → Option Nat} {ed : Option ((Nat → Nat → Nat → Option Nat) × (Nat → Nat → Nat))} (hK : okK K) (hF : ∀ q, ed = some q → okF q.1 q.2) : (rk K ed).2.2.2 ≤ 2100000000000000000 ∧ (rk K ed).2.2.1 ≤ 100000000 ∧ (rk K ed).2.1.length ≤ 5 := by
  cases ed with
  | none => exact ⟨Nat.zero_le _, Nat.zero_le _, Nat.zero_le _⟩
  | some q => exact rkE_bd hK (hF q rfl)
theorem mK_ok {nf lot day on : Nat} {fl fk fd fw fv : Nat → Nat} (hn : nf ≤ 300) (h : ∀ i, fv i ≤ mostN (fk i)) : okK (mK nf fl fk fd fw fv lot day on) := by
  intro k v hk hv
  unfold mK at hv
  rcases hk_ix (fl := fl) (fk := fk) (fd := fd) (fw := fw) (lot := lot) (kind := k) (day := day) (on := on) nf with e | ⟨i, h1, e, h3⟩
  · rw [e] at hv; cases hv
  · rw [e, kv_k (by omega)] at hv
    cases hv
    have := h i
    rw [h3.2.1] at this
    exact this
theorem mE_ok {ne : Nat} {ef rr rm : Nat → Nat} {day : Nat} (hne : ne ≤ 10) (h : ∀ e n, e < 11 → n < rm e → okR (rr ((e * 40 + n) * 5)) (rr ((e * 40 + n) * 5 + 1)) (rr ((e * 40 + n) * 5 + 2)) (rr ((e * 40 + n) * 5 + 3)) (rr ((e * 40 + n) * 5 + 4))) : ∀ q, mE ne ef rr rm day = some q → okF q.1 q.2 := by
  intro q hq
  unfold mE at hq
  rcases en : eo ef day ne with _ | e1
  · rw [en] at hq; cases hq
  · rw [en] at hq
    cases hq
    have h1 := eo_lt en
    intro k g s r hr
    obtain ⟨-, h2, h3⟩ := ff_in hr
    have h4 := h e1 r (by omega) (by omega)
    rw [fp_k h3] at h4
    exact h4
/-- a lot has litres of a day in a month -/
def hLt (fl fk fd : Nat → Nat) (lot m : Nat) : Nat → Bool
  | 0 => false
  | n + 1 => hLt fl fk fd lot m n || decide (fl n = lot ∧ fk n = 2 ∧ fd n / 30 = m)
/-- the returns -/
def mRt (G : gG) (h : fH) (mf : Nat → Value) (th du wr : Nat → Nat) (rn : Nat) (rl : Nat → Nat) (rD rM : Nat → Int64) : Prop :=
  ∃ a27 a28 a29 a31 a32 a33 : Nat, (mf 27 = .ref a27 ∧ mf 28 = .ref a28 ∧ mf 29 = .ref a29 ∧ mf 30 = .int (nI rn) ∧ mf 31 = .ref a31 ∧ mf 32 = .ref a32 ∧ mf 33 = .ref a33) ∧
  (h a27 = some (68, 0, .inl (G.2.1 0, 90030, .inl (fun i => nI (th i)))) ∧ h a28 = some (69, 0, .inl (G.2.1 1, 90030, .inr (.inl (fun i => lN (du i))))) ∧ h a29 = some (70, 0, .inl (G.2.1 2, 3001, .inl (fun i => nI (wr i)))) ∧ h a31 = some (72, 0, .inl (G.2.1 0, 30, .inl (fun i => nI (rl i)))) ∧ h a32 = some (73, 0, .inl (G.2.1 1, 30, .inr (.inl rD))) ∧ h a33 = some (74, 0, .inl (G.2.1 1, 30, .inr (.inl rM)))) ∧
  rn ≤ 30 ∧ (∀ i, th i ≤ 2) ∧ (∀ i, du i ≤ 1000000000) ∧ (∀ i, wr i ≤ 1) ∧ ∀ i, rl i < 30
theorem mRt.keep {G : gG} {h h' : fH} {mf mf' : Nat → Value} {th du wr : Nat → Nat} {rn : Nat} {rl : Nat → Nat} {rD rM : Nat → Int64} {S : List Nat} (H : mRt G h mf th du wr rn rl rD rM) (hm : ∀ j, 27 ≤ j → j ≤ 33 → mf' j = mf j) (hF : fF (inR S) h h') (hS : S.all (fun r => decide (r < 68 ∨ 74 < r)) = true) : mRt G h' mf' th du wr rn rl rD rM := by
  have hs : ∀ r, 68 ≤ r → r ≤ 74 → ¬ r ∈ S := fun r h1 h2 hr => by have := List.all_eq_true.mp hS r hr; simp only [decide_eq_true_eq] at this; omega
  obtain ⟨a27, a28, a29, a31, a32, a33, ⟨v1, v2, v3, v4, v5, v6, v7⟩, ⟨g1, g2, g3, g4, g5, g6⟩, b⟩ := H
  exact ⟨a27, a28, a29, a31, a32, a33, ⟨by rw [hm 27 (by decide) (by decide)]; exact v1, by rw [hm 28 (by decide) (by decide)]; exact v2, by rw [hm 29 (by decide) (by decide)]; exact v3, by rw [hm 30 (by decide) (by decide)]; exact v4, by rw [hm 31 (by decide) (by decide)]; exact v5, by rw [hm 32 (by decide) (by decide)]; exact v6, by rw [hm 33 (by decide) (by decide)]; exact v7⟩,
    ⟨hF _ _ _ _ g1 (hs _ (by decide) (by decide)), hF _ _ _ _ g2 (hs _ (by decide) (by decide)), hF _ _ _ _ g3 (hs _ (by decide) (by decide)), hF _ _ _ _ g4 (hs _ (by decide) (by decide)), hF _ _ _ _ g5 (hs _ (by decide) (by decide)), hF _ _ _ _ g6 (hs _ (by decide) (by decide))⟩, b⟩
/-- sums over lots -/
def sumN (f : Nat → Nat) : Nat → Nat
  | 0 => 0
  | n + 1 => sumN f n + f n
theorem sumN_le {f : Nat → Nat} {M : Nat} (h : ∀ i, f i ≤ M) : ∀ n, sumN f n ≤ n * M
  | 0 => Nat.zero_le _
  | n + 1 => by
    have h1 := sumN_le h n
    have h2 := h n
    show sumN f n + f n ≤ (n + 1) * M
    rw [Nat.succ_mul]
    omega
def sumL (f : Nat → Int64) : Nat → Int64
  | 0 => 0
  | n + 1 => sumL f n + f n
theorem l_rfI (x : Int32) : x ≤ x := by rw [Int32.le_iff_toInt_le]; omega
