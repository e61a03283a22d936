/-! ROWS FOR THE LAW -/
theorem day_of {x : Int64} (h : ¬ (x < 0 ∨ 100000 < x)) : ∃ n, n ≤ 100000 ∧ x = lN n := by
  have h1 : ¬ x < 0 := fun q => h (Or.inl q)
  have h2 : ¬ 100000 < x := fun q => h (Or.inr q)
  rw [Int64.lt_iff_toInt_lt] at h1 h2
  have e0 : (0 : Int64).toInt = 0 := by decide
  have e1 : (100000 : Int64).toInt = 100000 := by decide
  refine ⟨x.toInt.toNat, by omega, Int64.toInt_inj.mp ?_⟩
  rw [pk_lT (by omega)]
  omega
theorem val_of {x : Int64} {M : Nat} (hM : M ≤ 100000000) (h : ¬ (x < 0 ∨ lN M < x)) : ∃ n, n ≤ M ∧ x = lN n := by
  have h1 : ¬ x < 0 := fun q => h (Or.inl q)
  have h2 : ¬ lN M < x := fun q => h (Or.inr q)
  rw [Int64.lt_iff_toInt_lt] at h1 h2
  have e0 : (0 : Int64).toInt = 0 := by decide
  rw [pk_lT (n := M) (by omega)] at h2
  refine ⟨x.toInt.toNat, by omega, Int64.toInt_inj.mp ?_⟩
  rw [pk_lT (by omega)]
  omega
theorem rng_of {x N : Int32} {k : Nat} (hk : k < 2 ^ 31) (hN : N = nI k) (h : ¬ (x < 0 ∨ N ≤ x)) : ∃ n, n < k ∧ x = nI n := by
  obtain ⟨n, hn, rfl⟩ := nI_of (fun q => h (Or.inl q))
  refine ⟨n, ?_, rfl⟩
  have h2 : ¬ N ≤ nI n := fun q => h (Or.inr q)
  rw [hN] at h2
  exact Nat.lt_of_not_le (fun q => h2 ((n_le hk hn).mpr q))
theorem most_l {ki : Nat} (h : ki < 6) : (if nI ki = 0 then (9 : Int64) else (if nI ki = 1 then 10000 else (if nI ki = 3 then 100000000 else 1000000))) = lN (mostN ki) := by
  rcases (show ki = 0 ∨ ki = 1 ∨ ki = 2 ∨ ki = 3 ∨ ki = 4 ∨ ki = 5 by omega) with rfl | rfl | rfl | rfl | rfl | rfl <;> decide
theorem lP_n {fl fk : Nat → Nat} {lot kind nf : Nat} (bl : ∀ i, fl i < 30) (bk : ∀ i, fk i < 6) (h1 : lot < 30) (h2 : kind < 6) : lst (lP fl fk (nI lot) (nI kind)) nf = lst (lQ fl fk lot kind) nf := lst_congr (fun i _ => by
  unfold lP lQ
  have b1 := bl i
  have b2 := bk i
  have e1 : nI (fl i) = nI lot ↔ fl i = lot := n_eq (by omega) (by omega)
  have e2 : nI (fk i) = nI kind ↔ fk i = kind := n_eq (by omega) (by omega)
  rw [decide_eq_decide, e1, e2])
theorem lP_bad {fl fk : Nat → Nat} {lot kd : Int32} {nf : Nat} (bl : ∀ i, fl i < 30) (bk : ∀ i, fk i < 6) (h : (lot < 0 ∨ 30 ≤ lot) ∨ (kd < 0 ∨ 6 ≤ kd)) : lst (lP fl fk lot kd) nf = none := by
  rcases e : lst (lP fl fk lot kd) nf with _ | i
  · rfl
  · have h1 := (lst_in e).2
    unfold lP at h1
    rw [decide_eq_true_eq] at h1
    have b1 := bl i
    have b2 := bk i
    rcases h with (q | q) | (q | q)
    · rw [← h1.1] at q; exact absurd q (nI_pos (by omega))
    · rw [← h1.1] at q; exact absurd ((n_le (a := 30) (b := fl i) (by omega) (by omega)).mp q) (by omega)
    · rw [← h1.2] at q; exact absurd q (nI_pos (by omega))
    · rw [← h1.2] at q; exact absurd ((n_le (a := 6) (b := fk i) (by omega) (by omega)).mp q) (by omega)
theorem hLt_up {fl fk fd : Nat → Nat} {nf a k d l mn : Nat} (h : hLt fl fk fd l mn nf = true) : hLt (va_up fl nf a) (va_up fk nf k) (va_up fd nf d) l mn (nf + 1) = true := by
  have e : ∀ n, n ≤ nf → hLt (va_up fl nf a) (va_up fk nf k) (va_up fd nf d) l mn n = hLt fl fk fd l mn n := by
    intro n
    induction n with
    | zero => intro _; rfl
    | succ n ih =>
      intro hn
      show (hLt _ _ _ l mn n || decide _) = (hLt fl fk fd l mn n || decide _)
      rw [ih (by omega), va_up_ne _ _ (by omega), va_up_ne _ _ (by omega), va_up_ne _ _ (by omega)]
  show (hLt _ _ _ l mn nf || decide _) = true
  rw [e nf (Nat.le_refl _), h, Bool.true_or]
theorem rep5_cp {rr : Nat → Nat} {ne : Nat} {L : List rlT} (hne : ne < 10) (h : rep5 (fun i => rr (2000 + i)) L) : rep5 (fun i => cp rr ne 200 (2000 + i)) L := by
  have e : ∀ i, cp rr ne 200 (2000 + i) = rr (2000 + i) := fun i => by unfold cp; rw [if_neg (by omega)]
  rw [show (fun i => cp rr ne 200 (2000 + i)) = fun i => rr (2000 + i) from funext e]
  exact h
theorem cR_of {G : gG} {h : fH} {R : Nat} {kf nf rr rm : Nat → Nat} {L : List rlT} (hU : rU G h 7 8 9 R L.length kf nf) (h4 : rep4 kf nf L) (h5 : rep5 (fun i => rr (2000 + i)) L) (hm : rm 10 = L.length) : cR G h R rr rm 10 := by
  refine ⟨kf, nf, by rw [hm]; exact hU, fun n hn => ?_⟩
  rw [hm] at hn
  obtain ⟨q1, q2, q3⟩ := h4 n L[n] (List.getElem?_eq_getElem hn)
  obtain ⟨z1, z2, z3⟩ := h5 n L[n] (List.getElem?_eq_getElem hn)
  have e0 : (10 * 40 + n) * 5 = 2000 + 5 * n := by omega
  refine ⟨by rw [q1, e0]; exact z1.symm, fun k hk => ?_⟩
  rw [q1] at hk
  have hk2 : k < L[n].2.length := by rw [q3.2.1]; exact hk
  rw [q2 k hk2, e0, show 2000 + 5 * n + (k + 1) = 2000 + (5 * n + (k + 1)) by omega]
  exact (z2 k hk2).symm
theorem cEd_rd {G : gG} {h : fH} {E ne x : Nat} {ef rr rr' rm : Nat → Nat} (H : cEd G h E ne ef rr rm) (hr : ∀ i, i < 2000 → rr' i = rr i) : cEd G h E ne ef rr' (va_up rm 10 x) := by
  obtain ⟨A5, A6, ge, g1, g2, g3, g4, g5, g6⟩ := H
  refine ⟨A5, A6, ge, g1, g2, g3, fun i hi => ?_, g5, g6⟩
  obtain ⟨R, e1, kf, nf, q1, q2⟩ := g4 i hi
  have hi10 : i ≠ 10 := by omega
  have hcnt : rm i ≤ 40 := by obtain ⟨_, _, _, _, _, q, _⟩ := id q1; exact q
  refine ⟨R, e1, kf, nf, by rw [va_up_ne _ _ hi10]; exact q1, fun n hn => ?_⟩
  rw [va_up_ne _ _ hi10] at hn
  obtain ⟨z1, z2⟩ := q2 n hn
  refine ⟨by rw [z1, hr _ (by omega)], fun k hk => ?_⟩
  have := nv_le (kf n)
  rw [z2 k hk, hr _ (by omega)]
theorem ed_ok {G : gG} {h : fH} {mf : Nat → Value} {ne : Nat} {ef rr rm : Nat → Nat} (H : mEd G h mf ne ef rr rm) : ∀ e9, e9 < ne → okE rr rm e9 := by
  obtain ⟨_, _, _, _, _, bne, _, _, _, brk⟩ := H
  exact fun e9 he n hn => brk e9 n (by omega) hn
theorem rk_all {G : gG} {h : fH} {mf : Nat → Value} {ne : Nat} {ef rr rm : Nat → Nat} {nf : Nat} {fl fk fd fw fv : Nat → Nat} (H : mEd G h mf ne ef rr rm) (F : mFc G h mf nf fl fk fd fw fv) (l9 d9 o9 : Nat) : (rk (mK nf fl fk fd fw fv l9 d9 o9) (mE ne ef rr rm d9)).2.2.2 ≤ 2100000000000000000 ∧ (rk (mK nf fl fk fd fw fv l9 d9 o9) (mE ne ef rr rm d9)).2.2.1 ≤ 100000000 := by
  obtain ⟨_, _, _, _, _, bne, _, _, _, brk⟩ := H
  obtain ⟨_, _, _, _, _, _, _, bnf, _, _, _, _, bfv⟩ := F
  have h1 := rk_bd (mK_ok (lot := l9) (day := d9) (on := o9) (fl := fl) (fd := fd) (fw := fw) bnf bfv) (mE_ok (ef := ef) (day := d9) bne brk)
  exact ⟨h1.1, h1.2.1⟩
theorem lateH_le {G : gG} {h : fH} {mf : Nat → Value} {ne : Nat} {ef rr rm : Nat → Nat} (H : mEd G h mf ne ef rr rm) (d9 : Nat) : lateH ne ef rr rm d9 ≤ 100 := by
  have hok := ed_ok H
  unfold lateH
  rcases e1 : eo ef d9 ne with _ | e
  · exact Nat.zero_le _
  · show (match ff (fp rr e 5 0 0) 0 (rm e) with | none => 0 | some r => rr ((e * 40 + r) * 5 + 1)) ≤ 100
    rcases e2 : ff (fp rr e 5 0 0) 0 (rm e) with _ | r
    · exact Nat.zero_le _
    · obtain ⟨q1, q2⟩ := mF_k (show mF rr rm e 5 0 0 = some r from e2)
      exact (hok e (eo_lt e1).1 r q1).2.2.2.2.2.2.2 q2
theorem lt_01 {x : Int32} (h : x < 0) : x < 1 := by
  rw [Int32.lt_iff_toInt_lt] at h ⊢
  have e0 : (0 : Int32).toInt = 0 := by decide
  have e1 : (1 : Int32).toInt = 1 := by decide
  omega
/-- a row of the last return, by its place -/
theorem row_in {th du : Nat → Nat} {ch : Nat → Int64} {rn : Nat} {rl : Nat → Nat} {rD rM : Nat → Int64} {mn j : Nat} (h : RowI th du ch rn rl rD rM mn 30) (hj : j < rn) : ∃ lo, ff (fun i => decide (hz th mn i = 1 ∧ nI (cnt th mn i) = nI j)) 0 30 = some lo ∧ rl j = lo ∧ rD j = (if th (mn * 30 + lo) = 1 then lN (du (mn * 30 + lo)) else -9223372036854775808) ∧ rM j = ch lo := by
  obtain ⟨h1, h2⟩ := h
  have hr30 : rn ≤ 30 := by rw [h1]; exact cnt_le th mn 30
  have key : ∀ n, j < cnt th mn n → ∃ lo, lo < n ∧ hz th mn lo = 1 ∧ cnt th mn lo = j := by
    intro n
    induction n with
    | zero => intro q; exact absurd q (Nat.not_lt_zero _)
    | succ n ih =>
      intro q
      have q2 : j < cnt th mn n + hz th mn n := q
      by_cases hc : j < cnt th mn n
      · obtain ⟨lo, z1, z2, z3⟩ := ih hc
        exact ⟨lo, by omega, z2, z3⟩
      · have hz9 := hz_le th mn n
        exact ⟨n, by omega, by omega, by omega⟩
  obtain ⟨lo, z1, z2, z3⟩ := key 30 (by rw [← h1]; exact hj)
  rcases e : ff (fun i => decide (hz th mn i = 1 ∧ nI (cnt th mn i) = nI j)) 0 30 with _ | l2
  · exact absurd (by simp only [decide_eq_true_eq]; exact ⟨z2, by rw [z3]⟩) (ff_none e lo (Nat.zero_le _) (by omega))
  · obtain ⟨-, w2, w3⟩ := ff_in e
    simp only [decide_eq_true_eq] at w3
    have w4 := cnt_le th mn l2
    have w5 : cnt th mn l2 = j := (n_eq (by omega) (by omega)).mp w3.2
    obtain ⟨q1, q2, q3⟩ := h2 l2 (by omega) w3.1
    rw [w5] at q1 q2 q3
    exact ⟨l2, rfl, q1, q2, q3⟩
theorem row_out {th du : Nat → Nat} {ch : Nat → Int64} {rn : Nat} {rl : Nat → Nat} {rD rM : Nat → Int64} {mn : Nat} {k : Int32} (h : RowI th du ch rn rl rD rM mn 30) (hk : k < 0 ∨ ¬ k < nI rn) : ff (fun i => decide (hz th mn i = 1 ∧ nI (cnt th mn i) = k)) 0 30 = none := by
  rcases e : ff (fun i => decide (hz th mn i = 1 ∧ nI (cnt th mn i) = k)) 0 30 with _ | l2
  · rfl
  · obtain ⟨-, w2, w3⟩ := ff_in e
    simp only [decide_eq_true_eq] at w3
    have w4 := cnt_le th mn l2
    have w5 := cnt_lt w3.1 30 (by omega)
    have w6 := cnt_le th mn 30
    rw [← h.1] at w5 w6
    rcases hk with q | q
    · rw [← w3.2] at q; exact absurd q (nI_pos (by omega))
    · rw [← w3.2] at q; exact absurd ((n_lt (by omega) (by omega)).mpr w5) q
