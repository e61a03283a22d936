/-! ROWS FOR THE LAW -/
theorem day_of {x : Int64} (h : ¬ (x < 0 ∨ 100000 < x)) : ∃ n, n ≤ 100000 ∧ x = lN n := by
  have h1 : ¬ x < 0 := fun q => h (Or.inl q)
  have h2 : ¬ 100000 < x := fun q => h (Or.inr q)
  rw [Int64.lt_iff_toInt_lt] at h1 h2
  have e0 : (0 : Int64).toInt = 0 := by decide
  have e1 : (100000 : Int64).toInt = 100000 := by decide
  refine ⟨x.toInt.toNat, by omega, Int64.toInt_inj.mp ?_⟩
  rw [pk_lT (by omega)]
  omega
theorem val_of {x : Int64} {M : Nat} (hM : M ≤ 100000000) (h : ¬ (x < 0 ∨ lN M < x)) : ∃ n, n ≤ M ∧ x = lN n := by
  have h1 : ¬ x < 0 := fun q => h (Or.inl q)
  have h2 : ¬ lN M < x := fun q => h (Or.inr q)
  rw [Int64.lt_iff_toInt_lt] at h1 h2
  have e0 : (0 : Int64).toInt = 0 := by decide
  rw [pk_lT (n := M) (by omega)] at h2
  refine ⟨x.toInt.toNat, by omega, Int64.toInt_inj.mp ?_⟩
  rw [pk_lT (by omega)]
  omega
theorem rng_of {x N : Int32} {k : Nat} (hk : k < 2 ^ 31) (hN : N = nI k) (h : ¬ (x < 0 ∨ N ≤ x)) : ∃ n, n < k ∧ x = nI n := by
  obtain ⟨n, hn, rfl⟩ := nI_of (fun q => h (Or.inl q))
  refine ⟨n, ?_, rfl⟩
  have h2 : ¬ N ≤ nI n := fun q => h (Or.inr q)
  rw [hN] at h2
  exact Nat.lt_of_not_le (fun q => h2 ((n_le hk hn).mpr q))
theorem most_l {ki : Nat} (h : ki < 6) : (if nI ki = 0 then (9 : Int64) else (if nI ki = 1 then 10000 else (if nI ki = 3 then 100000000 else 1000000))) = lN (mostN ki) := by
  rcases (show ki = 0 ∨ ki = 1 ∨ ki = 2 ∨ ki = 3 ∨ ki = 4 ∨ ki = 5 by omega) with rfl | rfl | rfl | rfl | rfl | rfl <;> decide
theorem lP_n {fl fk : Nat → Nat} {lot kind nf : Nat} (bl : ∀ i, fl i < 30) (bk : ∀ i, fk i < 6) (h1 : lot < 30) (h2 : kind < 6) : lst (lP fl fk (nI lot) (nI kind)) nf = lst (lQ fl fk lot kind) nf := lst_congr (fun i _ => by
  unfold lP lQ
  have b1 := bl i
  have b2 := bk i
  have e1 : nI (fl i) = nI lot ↔ fl i = lot := n_eq (by omega) (by omega)
  have e2 : nI (fk i) = nI kind ↔ fk i = kind := n_eq (by omega) (by omega)
  rw [decide_eq_decide, e1, e2])
theorem lP_bad {fl fk : Nat → Nat} {lot kd : Int32} {nf : Nat} (bl : ∀ i, fl i < 30) (bk : ∀ i, fk i < 6) (h : (lot < 0 ∨ 30 ≤ lot) ∨ (kd < 0 ∨ 6 ≤ kd)) : lst (lP fl fk lot kd) nf = none := by
  rcases e : lst (lP fl fk lot kd) nf with _ | i
  · rfl
  · have h1 := (lst_in e).2
    unfold lP at h1
    rw [decide_eq_true_eq] at h1
    have b1 := bl i
    have b2 := bk i
    rcases h with (q | q) | (q | q)
    · rw [← h1.1] at q; exact absurd q (nI_pos (by omega))
    · rw [← h1.1] at q; exact absurd ((n_le (a := 30) (b := fl i) (by omega) (by omega)).mp q) (by omega)
    · rw [← h1.2] at q; exact absurd q (nI_pos (by omega))
    · rw [← h1.2] at q; exact absurd ((n_le (a := 6) (b := fk i) (by omega) (by omega)).mp q) (by omega)
theorem hLt_up {fl fk fd : Nat → Nat} {nf a k d l mn : Nat} (h : hLt fl fk fd l mn nf = true) : hLt (va_up fl nf a) (va_up fk nf k) (va_up fd nf d) l mn (nf + 1) = true := by
  have e : ∀ n, n ≤ nf → hLt (va_up fl nf a) (va_up fk nf k) (va_up fd nf d) l mn n = hLt fl fk fd l mn n := by
    intro n
    induction n with
    | zero => intro _; rfl
    | succ n ih =>
      intro hn
      show (hLt _ _ _ l mn n || decide _) = (hLt fl fk fd l mn n || decide _)
      rw [ih (by omega), va_up_ne _ _ (by omega), va_up_ne _ _ (by omega), va_up_ne _ _ (by omega)]
  show (hLt _ _ _ l mn nf || decide _) = true
  rw [e nf (Nat.le_refl _), h, Bool.true_or]
theorem rep5_cp {rr : Nat → Nat} {ne : Nat} {L : List rlT} (hne : ne < 10) (h : rep5 (fun i => rr (2000 + i)) L) : rep5 (fun i => cp rr ne 200 (2000 + i)) L := by
  have e : ∀ i, cp rr ne 200 (2000 + i) = rr (2000 + i) := fun i => by unfold cp; rw [if_neg (by omega)]
  rw [show (fun i => cp rr ne 200 (2000 + i)) = fun i => rr (2000 + i) from funext e]
  exact h
theorem cR_of {G : gG} {h : fH} {R : Nat} {kf nf rr rm : Nat → Nat} {L : List rlT} (hU : rU G h 7 8 9 R L.length kf nf) (h4 : rep4 kf nf L) (h5 : rep5 (fun i => rr (2000 + i)) L) (hm : rm 10 = L.length) : cR G h R rr rm 10 := by
  refine ⟨kf, nf, by rw [hm]; exact hU, fun n hn => ?_⟩
  rw [hm] at hn
  obtain ⟨q1, q2, q3⟩ := h4 n L[n] (List.getElem?_eq_getElem hn)
  obtain ⟨z1, z2, z3⟩ := h5 n L[n] (List.getElem?_eq_getElem hn)
  have e0 : (10 * 40 + n) * 5 = 2000 + 5 * n := by omega
  refine ⟨by rw [q1, e0]; exact z1.symm, fun k hk => ?_⟩
  rw [q1] at hk
  have hk2 : k < L[n].2.length := by rw [q3.2.1]; exact hk
  rw [q2 k hk2, e0, show 2000 + 5 * n + (k + 1) = 2000 + (5 * n + (k + 1)) by omega]
  exact (z2 k hk2).symm
theorem cEd_rd {G : gG} {h : fH} {E ne x : Nat} {ef rr rr' rm : Nat → Nat} (H : cEd G h E ne ef rr rm) (hr : ∀ i, i < 2000 → rr' i = rr i) : cEd G h E ne ef rr' (va_up rm 10 x) := by
  obtain ⟨A5, A6, ge, g1, g2, g3, g4, g5, g6⟩ := H
  refine ⟨A5, A6, ge, g1, g2, g3, fun i hi => ?_, g5, g6⟩
  obtain ⟨R, e1, kf, nf, q1, q2⟩ := g4 i hi
  have hi10 : i ≠ 10 := by omega
  have hcnt : rm i ≤ 40 := by obtain ⟨_, _, _, _, _, q, _⟩ := id q1; exact q
  refine ⟨R, e1, kf, nf, by rw [va_up_ne _ _ hi10]; exact q1, fun n hn => ?_⟩
  rw [va_up_ne _ _ hi10] at hn
  obtain ⟨z1, z2⟩ := q2 n hn
  refine ⟨by rw [z1, hr _ (by omega)], fun k hk => ?_⟩
  have := nv_le (kf n)
  rw [z2 k hk, hr _ (by omega)]
theorem ed_ok {G : gG} {h : fH} {mf : Nat → Value} {ne : Nat} {ef rr rm : Nat → Nat} (H : mEd G h mf ne ef rr rm) : ∀ e9, e9 < ne → okE rr rm e9 := by
  obtain ⟨_, _, _, _, _, bne, _, _, _, brk⟩ := H
  exact fun e9 he n hn => brk e9 n (by omega) hn
theorem rk_all {G : gG} {h : fH} {mf : Nat → Value} {ne : Nat} {ef rr rm : Nat → Nat} {nf : Nat} {fl fk fd fw fv : Nat → Nat} (H : mEd G h mf ne ef rr rm) (F : mFc G h mf nf fl fk fd fw fv) (l9 d9 o9 : Nat) : (rk (mK nf fl fk fd fw fv l9 d9 o9) (mE ne ef rr rm d9)).2.2.2 ≤ 2100000000000000000 ∧ (rk (mK nf fl fk fd fw fv l9 d9 o9) (mE ne ef rr rm d9)).2.2.1 ≤ 100000000 := by
  obtain ⟨_, _, _, _, _, bne, _, _, _, brk⟩ := H
  obtain ⟨_, _, _, _, _, _, _, bnf, _, _, _, _, bfv⟩ := F
  have h1 := rk_bd (mK_ok (lot := l9) (day := d9) (on := o9) (fl := fl) (fd := fd) (fw := fw) bnf bfv) (mE_ok (ef := ef) (day := d9) bne brk)
  exact ⟨h1.1, h1.2.1⟩
theorem lateH_le {G : gG} {h : fH} {mf : Nat → Value} {ne : Nat} {ef rr rm : Nat → Nat} (H : mEd G h mf ne ef rr rm) (d9 : Nat) : lateH ne ef rr rm d9 ≤ 100 := by
  have hok := ed_ok H
  unfold lateH
  rcases e1 : eo ef d9 ne with _ | e
  · exact Nat.zero_le _
  · show (match ff (fp rr e 5 0 0) 0 (rm e) with | none => 0 | some r => rr ((e * 40 + r) * 5 + 1)) ≤ 100
    rcases e2 : ff (fp rr e 5 0 0) 0 (rm e) with _ | r
    · exact Nat.zero_le _
    · obtain ⟨q1, q2⟩ := mF_k (show mF rr rm e 5 0 0 = some r from e2)
      exact (hok e (eo_lt e1).1 r q1).2.2.2.2.2.2.2 q2
theorem lt_01 {x : Int32} (h : x < 0) : x < 1 := by
  rw [Int32.lt_iff_toInt_lt] at h ⊢
  have e0 : (0 : Int32).toInt = 0 := by decide
  have e1 : (1 : Int32).toInt = 1 := by decide
  omega
/-- a row of the last return, by its place -/
theorem row_in {th du : Nat → Nat} {ch : Nat → Int64} {rn : Nat} {rl : Nat → Nat} {rD rM : Nat → Int64} {mn j : Nat} (h : RowI th du ch rn rl rD rM mn 30) (hj : j < rn) : ∃ lo, ff (fun i => decide (hz th mn i = 1 ∧ nI (cnt th mn i) = nI j)) 0 30 = some lo ∧ rl j = lo ∧ rD j = (if th (mn * 30 + lo) = 1 then lN (du (mn * 30 + lo)) else -9223372036854775808) ∧ rM j = ch lo := by
  obtain ⟨h1, h2⟩ := h
  have hr30 : rn ≤ 30 := by rw [h1]; exact cnt_le th mn 30
  have key : ∀ n, j < cnt th mn n → ∃ lo, lo < n ∧ hz th mn lo = 1 ∧ cnt th mn lo = j := by
    intro n
    induction n with
    | zero => intro q; exact absurd q (Nat.not_lt_zero _)
    | succ n ih =>
      intro q
      have q2 : j < cnt th mn n + hz th mn n := q
      by_cases hc : j < cnt th mn n
      · obtain ⟨lo, z1, z2, z3⟩ := ih hc
        exact ⟨lo, by omega, z2, z3⟩
      · have hz9 := hz_le th mn n
        exact ⟨n, by omega, by omega, by omega⟩
  obtain ⟨lo, z1, z2, z3⟩ := key 30 (by rw [← h1]; exact hj)
  rcases e : ff (fun i => decide (hz th mn i = 1 ∧ nI (cnt th mn i) = nI j)) 0 30 with _ | l2
  · exact absurd (by simp only [decide_eq_true_eq]; exact ⟨z2, by rw [z3]⟩) (ff_none e lo (Nat.zero_le _) (by omega))
  · obtain ⟨-, w2, w3⟩ := ff_in e
    simp only [decide_eq_true_eq] at w3
    have w4 := cnt_le th mn l2
    have w5 : cnt th mn l2 = j := (n_eq (by omega) (by omega)).mp w3.2
    obtain ⟨q1, q2, q3⟩ := h2 l2 (by omega) w3.1
    rw [w5] at q1 q2 q3
    exact ⟨l2, rfl, q1, q2, q3⟩
theorem row_out {th du : Nat → Nat} {ch : Nat → Int64} {rn : Nat} {rl : Nat → Nat} {rD rM : Nat → Int64} {mn : Nat} {k : Int32} (h : RowI th du ch rn rl rD rM mn 30) (hk : k < 0 ∨ ¬ k < nI rn) : ff (fun i => decide (hz th mn i = 1 ∧ nI (cnt th mn i) = k)) 0 30 = none := by
  rcases e : ff (fun i => decide (hz th mn i = 1 ∧ nI (cnt th mn i) = k)) 0 30 with _ | l2
  · rfl
  · obtain ⟨-, w2, w3⟩ := ff_in e
    simp only [decide_eq_true_eq] at w3
    have w4 := cnt_le th mn l2
    have w5 := cnt_lt w3.1 30 (by omega)
    have w6 := cnt_le th mn 30
    rw [← h.1] at w5 w6
    rcases hk with q | q
    · rw [← w3.2] at q; exact absurd q (nI_pos (by omega))
    · rw [← w3.2] at q; exact absurd ((n_lt (by omega) (by omega)).mpr w5) q
/-! the cents behind each step -/
def stB (d : dst) : Prop := ∀ q ∈ d.1, q.2.2 < 2 ^ 63
theorem stB_add {d : dst} {a b c x y : Nat} (h : stB d) (hc : c < 2 ^ 63) : stB (d.1 ++ [(a, b, c / CT)], x, y) := by
  intro q hq
  rcases List.mem_append.mp hq with z | z
  · exact h q z
  · rw [List.mem_singleton.mp z]
    exact Nat.lt_of_le_of_lt (Nat.div_le_self _ _) hc
theorem rkE_st {K : Nat → Option Nat} {F : Nat → Nat → Nat → Option Nat} {V : Nat → Nat → Nat} (hK : okK K) (hF : okF F V) : stB (rkE K F V).2 := by
  by_cases h : (rkE K F V).1 = -1
  · obtain ⟨g, st, li, ra, h0, h1, h2, h3, h4, h5⟩ := rkE_inv h
    have bli : li ≤ 1000000 := hK 2 li (by decide) h2
    have bpay : V ra 4 ≤ 1000000 := ((hF 0 g st ra h3).2.2.1 rfl).2.2
    have hbd := (rkE_bd hK hF).1
    rw [h5] at hbd ⊢
    have hlp : li * V ra 4 ≤ 1000000 * 1000000 := mulle bli bpay
    have s1 : stB (sA li (V ra 4) ra) := stB_add (d := d0) (fun q hq => by simp [d0] at hq) (by omega)
    have p2 := sB_post (li := li) (pay := V ra 4) (lost := K 4) (loss := F 2 g 0) (V := V) (d := sA li (V ra 4) ra) (Nat.le_refl 1) rfl rfl (fun r q => (hF 2 g 0 r q).2.2.2.2.1 rfl)
    have s2 : stB (sB li (V ra 4) (K 4) (F 2 g 0) V (sA li (V ra 4) ra)) := by
      cases K 4 with
      | none => exact s1
      | some v => cases F 2 g 0 with
        | none => exact s1
        | some r => exact stB_add s1 (Nat.lt_of_le_of_lt (Nat.sub_le _ _) (show li * V ra 4 * 1000000 < 2 ^ 63 by omega))
    have p3 := sC_post (gone := K 5) (away := F 3 g 0) (V := V) bli bpay p2.1 p2.2.1
    have hlq : (li * 100 - (sB li (V ra 4) (K 4) (F 2 g 0) V (sA li (V ra 4) ra)).2.1) * V ra 4 ≤ 100000000 * 1000000 := mulle (by omega) bpay
    have s3 : stB (sC li (V ra 4) (K 5) (F 3 g 0) V (sB li (V ra 4) (K 4) (F 2 g 0) V (sA li (V ra 4) ra))) := by
      cases K 5 with
      | none => exact s2
      | some v => cases F 3 g 0 with
        | none => exact s2
        | some r => exact stB_add s2 (Nat.lt_of_le_of_lt (Nat.sub_le _ _) (by rw [p2.2.1]; omega))
    have s4 : stB (sD (F 1 g 0) (K 3) V (sC li (V ra 4) (K 5) (F 3 g 0) V (sB li (V ra 4) (K 4) (F 2 g 0) V (sA li (V ra 4) ra)))) := by
      generalize sC li (V ra 4) (K 5) (F 3 g 0) V (sB li (V ra 4) (K 4) (F 2 g 0) V (sA li (V ra 4) ra)) = d at s3 p3
      rcases e1 : F 1 g 0 with _ | r
      · exact s3
      · have hv := ((hF 1 g 0 r e1).2.2.2.1 rfl).2
        have hc9 : d.2.2 / 100 * V r 3 ≤ d.2.2 / 100 * 100 := Nat.mul_le_mul_left _ hv
        have hc8 : d.2.2 / 100 * 100 ≤ d.2.2 := Nat.div_mul_le_self _ _
        cases K 3 with
        | none => exact s3
        | some y =>
          show stB (if y < V r 2 then sD1 (V r 3) r d else d)
          split
          · exact stB_add s3 (by omega)
          · exact s3
    show stB (sE (F 4 0 0) V _)
    have hbd2 : (sE (F 4 0 0) V (sD (F 1 g 0) (K 3) V (sC li (V ra 4) (K 5) (F 3 g 0) V (sB li (V ra 4) (K 4) (F 2 g 0) V (sA li (V ra 4) ra))))).2.2 ≤ 2100000000000000000 := hbd
    generalize sD (F 1 g 0) (K 3) V (sC li (V ra 4) (K 5) (F 3 g 0) V (sB li (V ra 4) (K 4) (F 2 g 0) V (sA li (V ra 4) ra))) = d at s4 hbd2
    cases hF4 : F 4 0 0 with
    | none => exact s4
    | some r =>
      rw [hF4] at hbd2
      exact stB_add s4 (Nat.lt_of_le_of_lt hbd2 (by decide))
  · rw [rkE_d0 h]
    intro q hq
    simp [d0] at hq
theorem rk_st {G : gG} {h : fH} {mf : Nat → Value} {ne : Nat} {ef rr rm : Nat → Nat} {nf : Nat} {fl fk fd fw fv : Nat → Nat} (H : mEd G h mf ne ef rr rm) (F : mFc G h mf nf fl fk fd fw fv) (l9 d9 o9 : Nat) : ∀ q ∈ (rk (mK nf fl fk fd fw fv l9 d9 o9) (mE ne ef rr rm d9)).2.1, q.2.2 < 2 ^ 63 := by
  obtain ⟨_, _, _, _, _, bne, _, _, _, brk⟩ := H
  obtain ⟨_, _, _, _, _, _, _, bnf, _, _, _, _, bfv⟩ := F
  rcases e : mE ne ef rr rm d9 with _ | q
  · intro q hq
    simp [rk, d0] at hq
  · exact rkE_st (mK_ok (lot := l9) (day := d9) (on := o9) (fl := fl) (fd := fd) (fw := fw) bnf bfv) (mE_ok (ef := ef) (day := d9) bne brk q e)
theorem wr_up {nn nn2 mn i2 m9 : Nat} {pm pm2 wr : Nat → Nat} (hor : (nn2 = nn ∧ pm2 = pm) ∨ (nn2 = nn + 1 ∧ pm2 = va_up pm nn mn)) (hi2 : i2 < nn2) (hpm2 : pm2 i2 = mn) (h : wr m9 = 1 ↔ ∃ i, i < nn ∧ pm i = m9) : va_up wr mn 1 m9 = 1 ↔ ∃ i, i < nn2 ∧ pm2 i = m9 := by
  by_cases e : m9 = mn
  · subst e
    rw [va_up_self]
    exact ⟨fun _ => ⟨i2, hi2, hpm2⟩, fun _ => rfl⟩
  · rw [va_up_ne _ _ e, h]
    rcases hor with ⟨rfl, rfl⟩ | ⟨rfl, rfl⟩
    · exact Iff.rfl
    · constructor
      · rintro ⟨i, q1, q2⟩
        exact ⟨i, by omega, by rw [va_up_ne _ _ (by omega)]; exact q2⟩
      · rintro ⟨i, q1, q2⟩
        by_cases ei : i = nn
        · rw [ei, va_up_self] at q2; exact absurd q2.symm e
        · rw [va_up_ne _ _ ei] at q2; exact ⟨i, by omega, q2⟩
/-- what a return leaves of the other months, and what it writes -/
theorem rtS_th {hL ok : Nat → Bool} {c : Nat → Nat} {mn : Nat} {s : rts} : ∀ n, n ≤ 30 → (∀ k, (k < mn * 30 ∨ mn * 30 + n ≤ k) → (rtS hL ok c mn s n).1 k = s.1 k) ∧ ∀ l, l < n → ¬ (rtS hL ok c mn s n).1 (mn * 30 + l) = 0 → hL l = true
  | 0, _ => ⟨fun k _ => rfl, fun l hl => absurd hl (Nat.not_lt_zero l)⟩
  | n + 1, hn => by
    obtain ⟨h1, h2⟩ := rtS_th (hL := hL) (ok := ok) (c := c) (mn := mn) (s := s) n (by omega)
    by_cases hl : hL n = true
    · have e : rtS hL ok c mn s (n + 1) = rtA mn n (c n) (ok n) (rtS hL ok c mn s n) := rtS_yes rfl hl rfl rfl
      rw [e]
      refine ⟨fun k hk => ?_, fun l hl2 hne => ?_⟩
      · show va_up (va_up _ _ _) _ _ k = _
        rw [va_up_ne _ _ (by omega), va_up_ne _ _ (by omega)]
        exact h1 k (by omega)
      · by_cases el : l = n
        · rw [el]; exact hl
        · refine h2 l (by omega) (fun q => hne ?_)
          show va_up (va_up _ _ _) _ _ _ = 0
          rw [va_up_ne _ _ (by omega), va_up_ne _ _ (by omega)]
          exact q
    · have e : rtS hL ok c mn s (n + 1) = rtB mn n (rtS hL ok c mn s n) := rtS_no rfl hl
      rw [e]
      refine ⟨fun k hk => ?_, fun l hl2 hne => ?_⟩
      · show va_up _ _ _ k = _
        rw [va_up_ne _ _ (by omega)]
        exact h1 k (by omega)
      · by_cases el : l = n
        · refine absurd ?_ hne
          show va_up _ _ _ _ = 0
          rw [el, va_up_self]
        · refine h2 l (by omega) (fun q => hne ?_)
          show va_up _ _ _ _ = 0
          rw [va_up_ne _ _ (by omega)]
          exact q
theorem rt_mon {fl fk fd : Nat → Nat} {nf mn : Nat} {ok : Nat → Bool} {c : Nat → Nat} {th du : Nat → Nat} {rn0 : Nat} {rl : Nat → Nat} {rD rM : Nat → Int64} {th2 du2 : Nat → Nat} {rn2 : Nat} {rl2 : Nat → Nat} {rD2 rM2 : Nat → Int64} (h : rtS (fun l => hLt fl fk fd l mn nf) ok c mn (th, du, rn0, rl, rD, rM) 30 = (th2, du2, rn2, rl2, rD2, rM2)) (hmon : ∀ mn l, mn ≤ 3000 → l < 30 → ¬ th (mn * 30 + l) = 0 → hLt fl fk fd l mn nf = true) (bm : mn ≤ 3000) : ∀ m9 l, m9 ≤ 3000 → l < 30 → ¬ th2 (m9 * 30 + l) = 0 → hLt fl fk fd l m9 nf = true := by
  intro m9 l q1 q2 q3
  have h1 := rtS_th (hL := fun l => hLt fl fk fd l mn nf) (ok := ok) (c := c) (mn := mn) (s := (th, du, rn0, rl, rD, rM)) 30 (Nat.le_refl _)
  rw [h] at h1
  by_cases e : m9 = mn
  · subst e
    exact h1.2 l q2 q3
  · have h2 : th2 (m9 * 30 + l) = th (m9 * 30 + l) := h1.1 _ (by omega)
    exact hmon m9 l q1 q2 (by rw [← h2]; exact q3)
theorem rt_z {hL ok : Nat → Bool} {c : Nat → Nat} {mn : Nat} {th du wr : Nat → Nat} {rn0 : Nat} {rl : Nat → Nat} {rD rM : Nat → Int64} {th2 du2 : Nat → Nat} {rn2 : Nat} {rl2 : Nat → Nat} {rD2 rM2 : Nat → Int64} (h : rtS hL ok c mn (th, du, rn0, rl, rD, rM) 30 = (th2, du2, rn2, rl2, rD2, rM2)) (hz0 : ∀ mn l, mn ≤ 3000 → l < 30 → wr mn = 0 → th (mn * 30 + l) = 0) (bm : mn ≤ 3000) : ∀ m9 l, m9 ≤ 3000 → l < 30 → va_up wr mn 1 m9 = 0 → th2 (m9 * 30 + l) = 0 := by
  intro m9 l q1 q2 q3
  have h1 := rtS_th (hL := hL) (ok := ok) (c := c) (mn := mn) (s := (th, du, rn0, rl, rD, rM)) 30 (Nat.le_refl _)
  rw [h] at h1
  by_cases e : m9 = mn
  · subst e
    rw [va_up_self] at q3
    cases q3
  · rw [va_up_ne _ _ e] at q3
    have h2 : th2 (m9 * 30 + l) = th (m9 * 30 + l) := h1.1 _ (by omega)
    rw [h2]
    exact hz0 m9 l q1 q2 q3
/-- the written text's roles lie outside -/
theorem nr_1 {S : List Nat} {r1 r2 o : Nat} (hr : (r1 = 0 ∧ r2 = 0) ∨ (r1 = 22 ∧ r2 = 23)) (hS : S.all (fun r => decide (r ≠ 0 ∧ r ≠ 22 ∧ r ≠ 23)) = true) : ¬ inR S r1 o := by
  intro q
  have := of_decide_eq_true (List.all_eq_true.mp hS r1 q)
  omega
theorem nr_2 {S : List Nat} {r1 r2 o : Nat} (hr : (r1 = 0 ∧ r2 = 0) ∨ (r1 = 22 ∧ r2 = 23)) (hS : S.all (fun r => decide (r ≠ 0 ∧ r ≠ 22 ∧ r ≠ 23)) = true) : ¬ inR S r2 o := by
  intro q
  have := of_decide_eq_true (List.all_eq_true.mp hS r2 q)
  omega
