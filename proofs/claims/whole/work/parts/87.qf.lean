set_option maxHeartbeats 8000000 in
set_option maxRecDepth 100000 in
/-- the law: row -/
theorem q_row {p : Program} {e : Env} {s : State} {m : MethodId} {below : List Frame} {meth : Method} {c : Code} (l : Launch) (G : gG) (h : fH) (b L X M n : Nat) (xs : Nat → Int32) (cS : ClassId) (C : gC G p s m #[Value.ref b] meth c (fA h s.heap.size) code 4 "DutyRulesLaw" meth.name) (hfb : fT s cS .int) (hK0 : cst G h b cS L xs) (bL : L ≤ 4608) (hn : 9 * n + 9 ≤ L)
    (K : ∀ (h2 : fH) (H : Heap) (locs : List Loc) (cs ss : Nat), cs ≤ 50 + 320 * (n + 1) → ss ≤ 190000 + 11800 * (n + 1) → LI G h2 X M → fX h s.heap.size h2 → fI G.1 g_cl (fA h s.heap.size) s.heap h2 H locs → ∀ ls : Array Slot, lv_has ls 4 [(0, .ref b), (1, .ref X), (2, .ref M), (3, .int (nI (9 * n)))] → W p l e room_1 s m #[Value.ref b] below meth c H locs cs ss (lw_Z below #[Value.ref b] s) (F0 m 859 ls []))
    : ∀ (h1 : fH) (H : Heap) (locs : List Loc) (cs ss : Nat), cs ≤ 50 + 320 * n → ss ≤ 190000 + 11800 * n → LI G h1 X M → fX h s.heap.size h1 → fI G.1 g_cl (fA h s.heap.size) s.heap h1 H locs → ∀ ls : Array Slot, lv_has ls 4 [(0, .ref b), (1, .ref X), (2, .ref M), (3, .int (nI (9 * n)))] → W p l e room_1 s m #[Value.ref b] below meth c H locs cs ss (lw_Z below #[Value.ref b] s) (F0 m 664 ls []) := by
  intro h1 H locs cs ss hcs hss hLI hX hI ls hl
  obtain ⟨hx, hb, hml, hown, hnm, hlk, hT, hG, hZ⟩ := id C
  have hK := hG.1
  have hsz : s.heap.size = s.heap.size := rfl
  obtain ⟨tn, tx, ne, ef, rr, rm, nf, la, fl, fk, fd, fw, fv, sL, sR, Ls, th, du, wr, rn, rl, rD, rM, L9, hr, hc, hp⟩ := hLI
  obtain ⟨mf, rg, g_M, hTx, hRd, hEm, hFf, v_13, hS0, hSh, hRt⟩ := id hr
  obtain ⟨T, E, F, D, I, R, Wr, wa, nr, lr, mm, A, fa, gq, nn, pr, pm, chs, lt, rs, hv, d, r1, r2, o1, g_X, ⟨hB, bmm⟩, hEd, hcR, hC, ⟨hD, hsh⟩, hIn, ⟨hS, hr12⟩, ⟨hCh, hnr⟩, hlr, hwr⟩ := id hc
  obtain ⟨hrep, hrm, bla, hmon, hz0⟩ := id hp
  have hKc := hK0.keepX hX
  have g_b := hKc.2.2.2
  have hn5 : n ≤ 511 := by omega
  have hoks := ed_ok hEm
  have hbd := rk_all hEm hFf
  obtain ⟨u1, hu1⟩ : ∃ z, xs (9 * n + 1) = z := ⟨_, rfl⟩
  obtain ⟨u2, hu2⟩ : ∃ z, xs (9 * n + 2) = z := ⟨_, rfl⟩
  have hpmb := hCh.1
  obtain ⟨_, _, _, _, _, _, _, _, bn30, bth, bdu, bwr, brl⟩ := id hRt
  rcases hlr with ⟨q1, q2⟩ | ⟨i, hi, q1, hrow⟩
  · subst q1
    have hbad : u1 < 0 ∨ ¬ u1 < nI rn := by rw [q2]; by_cases q : u1 < 0; exact Or.inl q; exact Or.inr q
    have hlr : lrR none nn pr pm th du chs rn rl rD rM := Or.inl ⟨rfl, q2⟩
    refine lv_aload_n hx hb d_LA_law_664 rfl (lv_at hl 1 rfl) ?_
    refine lv_aload_n hx hb d_LA_law_665 rfl (lv_at hl 0 rfl) ?_
    refine lv_iload_n hx hb d_LA_law_666 rfl (lv_at hl 3 rfl) ?_
    refine lv_iconst (v := 1) hx hb d_LA_law_667 (by decide) ?_
    refine lv_iadd hx hb d_LA_law_668 ?_
    refine f_asi (nI_add (9 * n) 1) ?_
    refine f_ialdn (k := ((9 * n) + 1)) (v := u1) hx hb hI g_b hfb (by omega) (by omega) hu1 d_LA_law_669 ?_
    refine lv_aload_n hx hb d_LA_law_670 rfl (lv_at hl 0 rfl) ?_
    refine lv_iload_n hx hb d_LA_law_671 rfl (lv_at hl 3 rfl) ?_
    refine lv_iconst (v := 2) hx hb d_LA_law_672 (by decide) ?_
    refine lv_iadd hx hb d_LA_law_673 ?_
    refine f_asi (nI_add (9 * n) 2) ?_
    refine f_ialdn (k := ((9 * n) + 2)) (v := u2) hx hb hI g_b hfb (by omega) (by omega) hu2 d_LA_law_674 ?_
    refine f_calll hI (f_runV C hI (c_DR_row_a l G h1 _ X T E F D I R Wr wa nr g_X u1 u2) gm_DR_row w_766 w_767 w_765 g_X rfl rfl rfl hl.1 rfl (Nat.le_of_ble_eq_true rfl) ⟨Nat.le_of_ble_eq_true rfl, Nat.le_of_ble_eq_true rfl⟩ d_LA_law_675 ⟨by show _ ≤ 600000; (try dsimp only); omega, by show _ ≤ 7302250; (try dsimp only); omega⟩) (fun r_1 h8 H9 locs hp9 hX9 hz9 hI => ?_)
    obtain ⟨rfl, e9⟩ := hp9
    rw [e9] at hI
    clear hX9 e9
    refine lv_aload_n hx hb d_LA_law_678 rfl (lv_at hl 2 rfl) ?_
    refine lv_aload_n hx hb d_LA_law_679 rfl (lv_at hl 0 rfl) ?_
    refine lv_iload_n hx hb d_LA_law_680 rfl (lv_at hl 3 rfl) ?_
    refine lv_iconst (v := 1) hx hb d_LA_law_681 (by decide) ?_
    refine lv_iadd hx hb d_LA_law_682 ?_
    refine f_asi (nI_add (9 * n) 1) ?_
    refine f_ialdn (k := ((9 * n) + 1)) (v := u1) hx hb hI g_b hfb (by omega) (by omega) hu1 d_LA_law_683 ?_
    refine lv_aload_n hx hb d_LA_law_684 rfl (lv_at hl 0 rfl) ?_
    refine lv_iload_n hx hb d_LA_law_685 rfl (lv_at hl 3 rfl) ?_
    refine lv_iconst (v := 2) hx hb d_LA_law_686 (by decide) ?_
    refine lv_iadd hx hb d_LA_law_687 ?_
    refine f_asi (nI_add (9 * n) 2) ?_
    refine f_ialdn (k := ((9 * n) + 2)) (v := u2) hx hb hI g_b hfb (by omega) (by omega) hu2 d_LA_law_688 ?_
    refine f_calll hI (f_runV C hI (c_MO_row_no l G h1 _ M u1 u2 mf g_M th du wr rn rl rD rM hRt hbad) gm_MO_row w_1084 w_1085 w_1083 g_M rfl rfl rfl hl.1 rfl (Nat.le_of_ble_eq_true rfl) ⟨Nat.le_of_ble_eq_true rfl, Nat.le_of_ble_eq_true rfl⟩ d_LA_law_689 ⟨by show _ ≤ 600000; (try dsimp only); omega, by show _ ≤ 7302250; (try dsimp only); omega⟩) (fun r_2 h8 H9 locs hp9 hX9 hz9 hI => ?_)
    obtain ⟨rfl, e9⟩ := hp9
    rw [e9] at hI
    clear hX9 e9
    refine f_lc_eq (tgt := 859) hx hb d_LA_law_692 d_LA_law_693 (by decide) (fun c_3 => ?_) (fun c_3 => absurd rfl c_3)
    refine K _ _ _ _ _ (by (try dsimp only); omega) (by (try dsimp only); omega) ⟨tn, tx, ne, ef, rr, rm, nf, la, fl, fk, fd, fw, fv, sL, sR, Ls, th, du, wr, rn, rl, rD, rM, L9, hr, hc, hp⟩ hX hI ls ?_
    exact lv_sub hl [0, 1, 2, 3] rfl
  · subst q1
    have hlr : lrR (some (pr i)) nn pr pm th du chs rn rl rD rM := Or.inr ⟨i, hi, rfl, hrow⟩
    have hZ1 := hCh.2.2 i hi
    by_cases hbad : u1 < 0 ∨ ¬ u1 < nI rn
    · have hff := row_out hrow hbad
      refine lv_aload_n hx hb d_LA_law_664 rfl (lv_at hl 1 rfl) ?_
      refine lv_aload_n hx hb d_LA_law_665 rfl (lv_at hl 0 rfl) ?_
      refine lv_iload_n hx hb d_LA_law_666 rfl (lv_at hl 3 rfl) ?_
      refine lv_iconst (v := 1) hx hb d_LA_law_667 (by decide) ?_
      refine lv_iadd hx hb d_LA_law_668 ?_
      refine f_asi (nI_add (9 * n) 1) ?_
      refine f_ialdn (k := ((9 * n) + 1)) (v := u1) hx hb hI g_b hfb (by omega) (by omega) hu1 d_LA_law_669 ?_
      refine lv_aload_n hx hb d_LA_law_670 rfl (lv_at hl 0 rfl) ?_
      refine lv_iload_n hx hb d_LA_law_671 rfl (lv_at hl 3 rfl) ?_
      refine lv_iconst (v := 2) hx hb d_LA_law_672 (by decide) ?_
      refine lv_iadd hx hb d_LA_law_673 ?_
      refine f_asi (nI_add (9 * n) 2) ?_
      refine f_ialdn (k := ((9 * n) + 2)) (v := u2) hx hb hI g_b hfb (by omega) (by omega) hu2 d_LA_law_674 ?_
      refine f_calll hI (f_runV C hI (c_DR_row_ok l G h1 _ X (pr i) T E F D I R Wr wa nr g_X u1 u2 i (pm i) (prv pr i) th du (chs i) hZ1 bth bdu) gm_DR_row w_766 w_767 w_765 g_X rfl rfl rfl hl.1 rfl (Nat.le_of_ble_eq_true rfl) ⟨Nat.le_of_ble_eq_true rfl, Nat.le_of_ble_eq_true rfl⟩ d_LA_law_675 ⟨by show _ ≤ 600000; (try dsimp only); omega, by show _ ≤ 7302250; (try dsimp only); omega⟩) (fun r_4 h8 H9 locs hp9 hX9 hz9 hI => ?_)
      obtain ⟨rfl, e9⟩ := hp9
      rw [e9] at hI
      clear hX9 e9
      rw [hff]
      refine f_asl (show _ = (-1 : Int64) from rfl) ?_
      refine lv_aload_n hx hb d_LA_law_678 rfl (lv_at hl 2 rfl) ?_
      refine lv_aload_n hx hb d_LA_law_679 rfl (lv_at hl 0 rfl) ?_
      refine lv_iload_n hx hb d_LA_law_680 rfl (lv_at hl 3 rfl) ?_
      refine lv_iconst (v := 1) hx hb d_LA_law_681 (by decide) ?_
      refine lv_iadd hx hb d_LA_law_682 ?_
      refine f_asi (nI_add (9 * n) 1) ?_
      refine f_ialdn (k := ((9 * n) + 1)) (v := u1) hx hb hI g_b hfb (by omega) (by omega) hu1 d_LA_law_683 ?_
      refine lv_aload_n hx hb d_LA_law_684 rfl (lv_at hl 0 rfl) ?_
      refine lv_iload_n hx hb d_LA_law_685 rfl (lv_at hl 3 rfl) ?_
      refine lv_iconst (v := 2) hx hb d_LA_law_686 (by decide) ?_
      refine lv_iadd hx hb d_LA_law_687 ?_
      refine f_asi (nI_add (9 * n) 2) ?_
      refine f_ialdn (k := ((9 * n) + 2)) (v := u2) hx hb hI g_b hfb (by omega) (by omega) hu2 d_LA_law_688 ?_
      refine f_calll hI (f_runV C hI (c_MO_row_no l G h1 _ M u1 u2 mf g_M th du wr rn rl rD rM hRt hbad) gm_MO_row w_1084 w_1085 w_1083 g_M rfl rfl rfl hl.1 rfl (Nat.le_of_ble_eq_true rfl) ⟨Nat.le_of_ble_eq_true rfl, Nat.le_of_ble_eq_true rfl⟩ d_LA_law_689 ⟨by show _ ≤ 600000; (try dsimp only); omega, by show _ ≤ 7302250; (try dsimp only); omega⟩) (fun r_5 h8 H9 locs hp9 hX9 hz9 hI => ?_)
      obtain ⟨rfl, e9⟩ := hp9
      rw [e9] at hI
      clear hX9 e9
      refine f_lc_eq (tgt := 859) hx hb d_LA_law_692 d_LA_law_693 (by decide) (fun c_6 => ?_) (fun c_6 => absurd rfl c_6)
      refine K _ _ _ _ _ (by (try dsimp only); omega) (by (try dsimp only); omega) ⟨tn, tx, ne, ef, rr, rm, nf, la, fl, fk, fd, fw, fv, sL, sR, Ls, th, du, wr, rn, rl, rD, rM, L9, hr, hc, hp⟩ hX hI ls ?_
      exact lv_sub hl [0, 1, 2, 3] rfl
    · obtain ⟨j, hj9, hje⟩ := nI_of (fun q => hbad (Or.inl q))
      subst hje
      have hj : j < rn := (n_lt hj9 (by omega)).mp (Classical.byContradiction (fun q => hbad (Or.inr q)))
      obtain ⟨lo, e1, e2, e3, e4⟩ := row_in hrow hj
      refine lv_aload_n hx hb d_LA_law_664 rfl (lv_at hl 1 rfl) ?_
      refine lv_aload_n hx hb d_LA_law_665 rfl (lv_at hl 0 rfl) ?_
      refine lv_iload_n hx hb d_LA_law_666 rfl (lv_at hl 3 rfl) ?_
      refine lv_iconst (v := 1) hx hb d_LA_law_667 (by decide) ?_
      refine lv_iadd hx hb d_LA_law_668 ?_
      refine f_asi (nI_add (9 * n) 1) ?_
      refine f_ialdn (k := ((9 * n) + 1)) (v := (nI j)) hx hb hI g_b hfb (by omega) (by omega) hu1 d_LA_law_669 ?_
      refine lv_aload_n hx hb d_LA_law_670 rfl (lv_at hl 0 rfl) ?_
      refine lv_iload_n hx hb d_LA_law_671 rfl (lv_at hl 3 rfl) ?_
      refine lv_iconst (v := 2) hx hb d_LA_law_672 (by decide) ?_
      refine lv_iadd hx hb d_LA_law_673 ?_
      refine f_asi (nI_add (9 * n) 2) ?_
      refine f_ialdn (k := ((9 * n) + 2)) (v := u2) hx hb hI g_b hfb (by omega) (by omega) hu2 d_LA_law_674 ?_
      refine f_calll hI (f_runV C hI (c_DR_row_ok l G h1 _ X (pr i) T E F D I R Wr wa nr g_X (nI j) u2 i (pm i) (prv pr i) th du (chs i) hZ1 bth bdu) gm_DR_row w_766 w_767 w_765 g_X rfl rfl rfl hl.1 rfl (Nat.le_of_ble_eq_true rfl) ⟨Nat.le_of_ble_eq_true rfl, Nat.le_of_ble_eq_true rfl⟩ d_LA_law_675 ⟨by show _ ≤ 600000; (try dsimp only); omega, by show _ ≤ 7302250; (try dsimp only); omega⟩) (fun r_7 h8 H9 locs hp9 hX9 hz9 hI => ?_)
      obtain ⟨rfl, e9⟩ := hp9
      rw [e9] at hI
      clear hX9 e9
      rw [e1]
      refine f_asl (show _ = (if u2 = 0 then lN (rl j) else (if u2 = 1 then rD j else (if u2 = 2 then rM j else -1))) by rw [e2, e3, e4]) ?_
      refine lv_aload_n hx hb d_LA_law_678 rfl (lv_at hl 2 rfl) ?_
      refine lv_aload_n hx hb d_LA_law_679 rfl (lv_at hl 0 rfl) ?_
      refine lv_iload_n hx hb d_LA_law_680 rfl (lv_at hl 3 rfl) ?_
      refine lv_iconst (v := 1) hx hb d_LA_law_681 (by decide) ?_
      refine lv_iadd hx hb d_LA_law_682 ?_
      refine f_asi (nI_add (9 * n) 1) ?_
      refine f_ialdn (k := ((9 * n) + 1)) (v := (nI j)) hx hb hI g_b hfb (by omega) (by omega) hu1 d_LA_law_683 ?_
      refine lv_aload_n hx hb d_LA_law_684 rfl (lv_at hl 0 rfl) ?_
      refine lv_iload_n hx hb d_LA_law_685 rfl (lv_at hl 3 rfl) ?_
      refine lv_iconst (v := 2) hx hb d_LA_law_686 (by decide) ?_
      refine lv_iadd hx hb d_LA_law_687 ?_
      refine f_asi (nI_add (9 * n) 2) ?_
      refine f_ialdn (k := ((9 * n) + 2)) (v := u2) hx hb hI g_b hfb (by omega) (by omega) hu2 d_LA_law_688 ?_
      refine f_calll hI (f_runV C hI (c_MO_row_ok l G h1 _ M j u2 mf g_M th du wr rn rl rD rM hRt hj) gm_MO_row w_1084 w_1085 w_1083 g_M rfl rfl rfl hl.1 rfl (Nat.le_of_ble_eq_true rfl) ⟨Nat.le_of_ble_eq_true rfl, Nat.le_of_ble_eq_true rfl⟩ d_LA_law_689 ⟨by show _ ≤ 600000; (try dsimp only); omega, by show _ ≤ 7302250; (try dsimp only); omega⟩) (fun r_8 h8 H9 locs hp9 hX9 hz9 hI => ?_)
      obtain ⟨rfl, e9⟩ := hp9
      rw [e9] at hI
      clear hX9 e9
      refine f_lc_eq (tgt := 859) hx hb d_LA_law_692 d_LA_law_693 (by decide) (fun c_9 => ?_) (fun c_9 => absurd rfl c_9)
      refine K _ _ _ _ _ (by (try dsimp only); omega) (by (try dsimp only); omega) ⟨tn, tx, ne, ef, rr, rm, nf, la, fl, fk, fd, fw, fv, sL, sR, Ls, th, du, wr, rn, rl, rD, rM, L9, hr, hc, hp⟩ hX hI ls ?_
      exact lv_sub hl [0, 1, 2, 3] rfl
set_option maxHeartbeats 8000000 in
set_option maxRecDepth 100000 in
/-- the law: interest -/
theorem q_interest {p : Program} {e : Env} {s : State} {m : MethodId} {below : List Frame} {meth : Method} {c : Code} (l : Launch) (G : gG) (h : fH) (b L X M n : Nat) (xs : Nat → Int32) (cS : ClassId) (C : gC G p s m #[Value.ref b] meth c (fA h s.heap.size) code 4 "DutyRulesLaw" meth.name) (hfb : fT s cS .int) (hK0 : cst G h b cS L xs) (bL : L ≤ 4608) (hn : 9 * n + 9 ≤ L)
    (K : ∀ (h2 : fH) (H : Heap) (locs : List Loc) (cs ss : Nat), cs ≤ 50 + 320 * (n + 1) → ss ≤ 190000 + 11800 * (n + 1) → LI G h2 X M → fX h s.heap.size h2 → fI G.1 g_cl (fA h s.heap.size) s.heap h2 H locs → ∀ ls : Array Slot, lv_has ls 4 [(0, .ref b), (1, .ref X), (2, .ref M), (3, .int (nI (9 * n)))] → W p l e room_1 s m #[Value.ref b] below meth c H locs cs ss (lw_Z below #[Value.ref b] s) (F0 m 859 ls []))
    : ∀ (h1 : fH) (H : Heap) (locs : List Loc) (cs ss : Nat), cs ≤ 50 + 320 * n → ss ≤ 190000 + 11800 * n → LI G h1 X M → fX h s.heap.size h1 → fI G.1 g_cl (fA h s.heap.size) s.heap h1 H locs → ∀ ls : Array Slot, lv_has ls 4 [(0, .ref b), (1, .ref X), (2, .ref M), (3, .int (nI (9 * n)))] → W p l e room_1 s m #[Value.ref b] below meth c H locs cs ss (lw_Z below #[Value.ref b] s) (F0 m 785 ls []) := by
  intro h1 H locs cs ss hcs hss hLI hX hI ls hl
  obtain ⟨hx, hb, hml, hown, hnm, hlk, hT, hG, hZ⟩ := id C
  have hK := hG.1
  have hsz : s.heap.size = s.heap.size := rfl
  obtain ⟨tn, tx, ne, ef, rr, rm, nf, la, fl, fk, fd, fw, fv, sL, sR, Ls, th, du, wr, rn, rl, rD, rM, L9, hr, hc, hp⟩ := hLI
  obtain ⟨mf, rg, g_M, hTx, hRd, hEm, hFf, v_13, hS0, hSh, hRt⟩ := id hr
  obtain ⟨T, E, F, D, I, R, Wr, wa, nr, lr, mm, A, fa, gq, nn, pr, pm, chs, lt, rs, hv, d, r1, r2, o1, g_X, ⟨hB, bmm⟩, hEd, hcR, hC, ⟨hD, hsh⟩, hIn, ⟨hS, hr12⟩, ⟨hCh, hnr⟩, hlr, hwr⟩ := id hc
  obtain ⟨hrep, hrm, bla, hmon, hz0⟩ := id hp
  have hKc := hK0.keepX hX
  have g_b := hKc.2.2.2
  have hn5 : n ≤ 511 := by omega
  have hoks := ed_ok hEm
  have hbd := rk_all hEm hFf
  obtain ⟨u1, hu1⟩ : ∃ z, xs (9 * n + 1) = z := ⟨_, rfl⟩
  obtain ⟨u2, hu2⟩ : ∃ z, xs (9 * n + 2) = z := ⟨_, rfl⟩
  obtain ⟨u3, hu3⟩ : ∃ z, xs (9 * n + 3) = z := ⟨_, rfl⟩
  obtain ⟨u4, hu4⟩ : ∃ z, xs (9 * n + 4) = z := ⟨_, rfl⟩
  obtain ⟨d2, hd2⟩ : ∃ z, (u2.toInt64 <<< ((32 : Int32).toInt64 &&& 63)) ||| (u3.toInt64 &&& 4294967295) = z := ⟨_, rfl⟩
  have hpmb := hCh.1
  obtain ⟨_, _, _, _, _, _, _, _, bn30, bth, bdu, bwr, brl⟩ := id hRt
  have hlate := lateH_le hEm
  by_cases hbm : u1 < 0 ∨ 3001 ≤ u1
  · have eL := pm_bad hbm hpmb
    refine lv_aload_n hx hb d_LA_law_785 rfl (lv_at hl 1 rfl) ?_
    refine lv_aload_n hx hb d_LA_law_786 rfl (lv_at hl 0 rfl) ?_
    refine lv_iload_n hx hb d_LA_law_787 rfl (lv_at hl 3 rfl) ?_
    refine lv_iconst (v := 1) hx hb d_LA_law_788 (by decide) ?_
    refine lv_iadd hx hb d_LA_law_789 ?_
    refine f_asi (nI_add (9 * n) 1) ?_
    refine f_ialdn (k := ((9 * n) + 1)) (v := u1) hx hb hI g_b hfb (by omega) (by omega) hu1 d_LA_law_790 ?_
    refine lv_aload_n hx hb d_LA_law_791 rfl (lv_at hl 0 rfl) ?_
    refine lv_iload_n hx hb d_LA_law_792 rfl (lv_at hl 3 rfl) ?_
    refine lv_iconst (v := 2) hx hb d_LA_law_793 (by decide) ?_
    refine lv_iadd hx hb d_LA_law_794 ?_
    refine f_asi (nI_add (9 * n) 2) ?_
    refine f_ialdn (k := ((9 * n) + 2)) (v := u2) hx hb hI g_b hfb (by omega) (by omega) hu2 d_LA_law_795 ?_
    refine lv_i2l hx hb d_LA_law_796 rfl ?_
    refine lv_bipush (v := 32) hx hb d_LA_law_797 (by decide) ?_
    refine lv_lshl hx hb d_LA_law_799 rfl ?_
    refine lv_aload_n hx hb d_LA_law_800 rfl (lv_at hl 0 rfl) ?_
    refine lv_iload_n hx hb d_LA_law_801 rfl (lv_at hl 3 rfl) ?_
    refine lv_iconst (v := 3) hx hb d_LA_law_802 (by decide) ?_
    refine lv_iadd hx hb d_LA_law_803 ?_
    refine f_asi (nI_add (9 * n) 3) ?_
    refine f_ialdn (k := ((9 * n) + 3)) (v := u3) hx hb hI g_b hfb (by omega) (by omega) hu3 d_LA_law_804 ?_
    refine lv_i2l hx hb d_LA_law_805 rfl ?_
    refine lv_ldc2 (v := 4294967295) hx hb hown (hT _ w_1095) d_LA_law_806 ?_
    refine lv_land hx hb d_LA_law_809 ?_
    refine lv_lor hx hb d_LA_law_810 ?_
    refine f_asl hd2 ?_
    refine lv_aload_n hx hb d_LA_law_811 rfl (lv_at hl 0 rfl) ?_
    refine lv_iload_n hx hb d_LA_law_812 rfl (lv_at hl 3 rfl) ?_
    refine lv_iconst (v := 4) hx hb d_LA_law_813 (by decide) ?_
    refine lv_iadd hx hb d_LA_law_814 ?_
    refine f_asi (nI_add (9 * n) 4) ?_
    refine f_ialdn (k := ((9 * n) + 4)) (v := u4) hx hb hI g_b hfb (by omega) (by omega) hu4 d_LA_law_815 ?_
    refine f_calll hI (f_runV C hI (c_DR_interest_a l G h1 _ X T E F D I R Wr wa nr lr g_X nn pr pm th du chs hCh hnr u1 d2 u4 eL) gm_DR_interest w_785 w_786 w_784 g_X rfl rfl rfl hl.1 rfl (Nat.le_of_ble_eq_true rfl) ⟨Nat.le_of_ble_eq_true rfl, Nat.le_of_ble_eq_true rfl⟩ d_LA_law_816 ⟨by show _ ≤ 600000; (try dsimp only); omega, by show _ ≤ 7302250; (try dsimp only); omega⟩) (fun r_1 h8 H9 locs hp9 hX9 hz9 hI => ?_)
    obtain ⟨rfl, e9⟩ := hp9
    rw [e9] at hI
    clear hX9 e9
    refine lv_aload_n hx hb d_LA_law_819 rfl (lv_at hl 2 rfl) ?_
    refine lv_aload_n hx hb d_LA_law_820 rfl (lv_at hl 0 rfl) ?_
    refine lv_iload_n hx hb d_LA_law_821 rfl (lv_at hl 3 rfl) ?_
    refine lv_iconst (v := 1) hx hb d_LA_law_822 (by decide) ?_
    refine lv_iadd hx hb d_LA_law_823 ?_
    refine f_asi (nI_add (9 * n) 1) ?_
    refine f_ialdn (k := ((9 * n) + 1)) (v := u1) hx hb hI g_b hfb (by omega) (by omega) hu1 d_LA_law_824 ?_
    refine lv_aload_n hx hb d_LA_law_825 rfl (lv_at hl 0 rfl) ?_
    refine lv_iload_n hx hb d_LA_law_826 rfl (lv_at hl 3 rfl) ?_
    refine lv_iconst (v := 2) hx hb d_LA_law_827 (by decide) ?_
    refine lv_iadd hx hb d_LA_law_828 ?_
    refine f_asi (nI_add (9 * n) 2) ?_
    refine f_ialdn (k := ((9 * n) + 2)) (v := u2) hx hb hI g_b hfb (by omega) (by omega) hu2 d_LA_law_829 ?_
    refine lv_i2l hx hb d_LA_law_830 rfl ?_
    refine lv_bipush (v := 32) hx hb d_LA_law_831 (by decide) ?_
    refine lv_lshl hx hb d_LA_law_833 rfl ?_
    refine lv_aload_n hx hb d_LA_law_834 rfl (lv_at hl 0 rfl) ?_
    refine lv_iload_n hx hb d_LA_law_835 rfl (lv_at hl 3 rfl) ?_
    refine lv_iconst (v := 3) hx hb d_LA_law_836 (by decide) ?_
    refine lv_iadd hx hb d_LA_law_837 ?_
    refine f_asi (nI_add (9 * n) 3) ?_
    refine f_ialdn (k := ((9 * n) + 3)) (v := u3) hx hb hI g_b hfb (by omega) (by omega) hu3 d_LA_law_838 ?_
    refine lv_i2l hx hb d_LA_law_839 rfl ?_
    refine lv_ldc2 (v := 4294967295) hx hb hown (hT _ w_1095) d_LA_law_840 ?_
    refine lv_land hx hb d_LA_law_843 ?_
    refine lv_lor hx hb d_LA_law_844 ?_
    refine f_asl hd2 ?_
    refine lv_aload_n hx hb d_LA_law_845 rfl (lv_at hl 0 rfl) ?_
    refine lv_iload_n hx hb d_LA_law_846 rfl (lv_at hl 3 rfl) ?_
    refine lv_iconst (v := 4) hx hb d_LA_law_847 (by decide) ?_
    refine lv_iadd hx hb d_LA_law_848 ?_
    refine f_asi (nI_add (9 * n) 4) ?_
    refine f_ialdn (k := ((9 * n) + 4)) (v := u4) hx hb hI g_b hfb (by omega) (by omega) hu4 d_LA_law_849 ?_
    refine f_calll hI (f_runV C hI (c_MO_interest_mo l G h1 _ M u1 d2 u4 hbm) gm_MO_interest w_1092 w_1093 w_1091 g_M rfl rfl rfl hl.1 rfl (Nat.le_of_ble_eq_true rfl) ⟨Nat.le_of_ble_eq_true rfl, Nat.le_of_ble_eq_true rfl⟩ d_LA_law_850 ⟨by show _ ≤ 600000; (try dsimp only); omega, by show _ ≤ 7302250; (try dsimp only); omega⟩) (fun r_2 h8 H9 locs hp9 hX9 hz9 hI => ?_)
    obtain ⟨rfl, e9⟩ := hp9
    rw [e9] at hI
    clear hX9 e9
    refine f_lc_eq (tgt := 859) hx hb d_LA_law_853 d_LA_law_854 (by decide) (fun c_3 => ?_) (fun c_3 => absurd rfl c_3)
    refine K _ _ _ _ _ (by (try dsimp only); omega) (by (try dsimp only); omega) ⟨tn, tx, ne, ef, rr, rm, nf, la, fl, fk, fd, fw, fv, sL, sR, Ls, th, du, wr, rn, rl, rD, rM, L9, hr, hc, hp⟩ hX hI ls ?_
    exact lv_sub hl [0, 1, 2, 3] rfl
  · obtain ⟨mn, bm1, hmn⟩ := rng_of (N := 3001) (k := 3001) (by decide) rfl hbm
    subst hmn
    have bm : mn ≤ 3000 := by omega
    have hpl := pm_lst bm hpmb
    have hw2 := hwr mn bm
    have bw := bwr mn
    rcases eL : lst (pmP pm (nI mn)) nn with _ | i
    · have hw0 : wr mn = 0 := by
        have : ¬ wr mn = 1 := fun q => by obtain ⟨i, z1, z2⟩ := hw2.mp q; exact hpl.1.mp eL i z1 z2
        omega
      refine lv_aload_n hx hb d_LA_law_785 rfl (lv_at hl 1 rfl) ?_
      refine lv_aload_n hx hb d_LA_law_786 rfl (lv_at hl 0 rfl) ?_
      refine lv_iload_n hx hb d_LA_law_787 rfl (lv_at hl 3 rfl) ?_
      refine lv_iconst (v := 1) hx hb d_LA_law_788 (by decide) ?_
      refine lv_iadd hx hb d_LA_law_789 ?_
      refine f_asi (nI_add (9 * n) 1) ?_
      refine f_ialdn (k := ((9 * n) + 1)) (v := (nI mn)) hx hb hI g_b hfb (by omega) (by omega) hu1 d_LA_law_790 ?_
      refine lv_aload_n hx hb d_LA_law_791 rfl (lv_at hl 0 rfl) ?_
      refine lv_iload_n hx hb d_LA_law_792 rfl (lv_at hl 3 rfl) ?_
      refine lv_iconst (v := 2) hx hb d_LA_law_793 (by decide) ?_
      refine lv_iadd hx hb d_LA_law_794 ?_
      refine f_asi (nI_add (9 * n) 2) ?_
      refine f_ialdn (k := ((9 * n) + 2)) (v := u2) hx hb hI g_b hfb (by omega) (by omega) hu2 d_LA_law_795 ?_
      refine lv_i2l hx hb d_LA_law_796 rfl ?_
      refine lv_bipush (v := 32) hx hb d_LA_law_797 (by decide) ?_
      refine lv_lshl hx hb d_LA_law_799 rfl ?_
      refine lv_aload_n hx hb d_LA_law_800 rfl (lv_at hl 0 rfl) ?_
      refine lv_iload_n hx hb d_LA_law_801 rfl (lv_at hl 3 rfl) ?_
      refine lv_iconst (v := 3) hx hb d_LA_law_802 (by decide) ?_
      refine lv_iadd hx hb d_LA_law_803 ?_
      refine f_asi (nI_add (9 * n) 3) ?_
      refine f_ialdn (k := ((9 * n) + 3)) (v := u3) hx hb hI g_b hfb (by omega) (by omega) hu3 d_LA_law_804 ?_
      refine lv_i2l hx hb d_LA_law_805 rfl ?_
      refine lv_ldc2 (v := 4294967295) hx hb hown (hT _ w_1095) d_LA_law_806 ?_
      refine lv_land hx hb d_LA_law_809 ?_
      refine lv_lor hx hb d_LA_law_810 ?_
      refine f_asl hd2 ?_
      refine lv_aload_n hx hb d_LA_law_811 rfl (lv_at hl 0 rfl) ?_
      refine lv_iload_n hx hb d_LA_law_812 rfl (lv_at hl 3 rfl) ?_
      refine lv_iconst (v := 4) hx hb d_LA_law_813 (by decide) ?_
      refine lv_iadd hx hb d_LA_law_814 ?_
      refine f_asi (nI_add (9 * n) 4) ?_
      refine f_ialdn (k := ((9 * n) + 4)) (v := u4) hx hb hI g_b hfb (by omega) (by omega) hu4 d_LA_law_815 ?_
      refine f_calll hI (f_runV C hI (c_DR_interest_a l G h1 _ X T E F D I R Wr wa nr lr g_X nn pr pm th du chs hCh hnr (nI mn) d2 u4 eL) gm_DR_interest w_785 w_786 w_784 g_X rfl rfl rfl hl.1 rfl (Nat.le_of_ble_eq_true rfl) ⟨Nat.le_of_ble_eq_true rfl, Nat.le_of_ble_eq_true rfl⟩ d_LA_law_816 ⟨by show _ ≤ 600000; (try dsimp only); omega, by show _ ≤ 7302250; (try dsimp only); omega⟩) (fun r_4 h8 H9 locs hp9 hX9 hz9 hI => ?_)
      obtain ⟨rfl, e9⟩ := hp9
      rw [e9] at hI
      clear hX9 e9
      refine lv_aload_n hx hb d_LA_law_819 rfl (lv_at hl 2 rfl) ?_
      refine lv_aload_n hx hb d_LA_law_820 rfl (lv_at hl 0 rfl) ?_
      refine lv_iload_n hx hb d_LA_law_821 rfl (lv_at hl 3 rfl) ?_
      refine lv_iconst (v := 1) hx hb d_LA_law_822 (by decide) ?_
      refine lv_iadd hx hb d_LA_law_823 ?_
      refine f_asi (nI_add (9 * n) 1) ?_
      refine f_ialdn (k := ((9 * n) + 1)) (v := (nI mn)) hx hb hI g_b hfb (by omega) (by omega) hu1 d_LA_law_824 ?_
      refine lv_aload_n hx hb d_LA_law_825 rfl (lv_at hl 0 rfl) ?_
      refine lv_iload_n hx hb d_LA_law_826 rfl (lv_at hl 3 rfl) ?_
      refine lv_iconst (v := 2) hx hb d_LA_law_827 (by decide) ?_
      refine lv_iadd hx hb d_LA_law_828 ?_
      refine f_asi (nI_add (9 * n) 2) ?_
      refine f_ialdn (k := ((9 * n) + 2)) (v := u2) hx hb hI g_b hfb (by omega) (by omega) hu2 d_LA_law_829 ?_
      refine lv_i2l hx hb d_LA_law_830 rfl ?_
      refine lv_bipush (v := 32) hx hb d_LA_law_831 (by decide) ?_
      refine lv_lshl hx hb d_LA_law_833 rfl ?_
      refine lv_aload_n hx hb d_LA_law_834 rfl (lv_at hl 0 rfl) ?_
      refine lv_iload_n hx hb d_LA_law_835 rfl (lv_at hl 3 rfl) ?_
      refine lv_iconst (v := 3) hx hb d_LA_law_836 (by decide) ?_
      refine lv_iadd hx hb d_LA_law_837 ?_
      refine f_asi (nI_add (9 * n) 3) ?_
      refine f_ialdn (k := ((9 * n) + 3)) (v := u3) hx hb hI g_b hfb (by omega) (by omega) hu3 d_LA_law_838 ?_
      refine lv_i2l hx hb d_LA_law_839 rfl ?_
      refine lv_ldc2 (v := 4294967295) hx hb hown (hT _ w_1095) d_LA_law_840 ?_
      refine lv_land hx hb d_LA_law_843 ?_
      refine lv_lor hx hb d_LA_law_844 ?_
      refine f_asl hd2 ?_
      refine lv_aload_n hx hb d_LA_law_845 rfl (lv_at hl 0 rfl) ?_
      refine lv_iload_n hx hb d_LA_law_846 rfl (lv_at hl 3 rfl) ?_
      refine lv_iconst (v := 4) hx hb d_LA_law_847 (by decide) ?_
      refine lv_iadd hx hb d_LA_law_848 ?_
      refine f_asi (nI_add (9 * n) 4) ?_
      refine f_ialdn (k := ((9 * n) + 4)) (v := u4) hx hb hI g_b hfb (by omega) (by omega) hu4 d_LA_law_849 ?_
      refine f_calll hI (f_runV C hI (c_MO_interest_no l G h1 _ M mn d2 u4 mf g_M th du wr rn rl rD rM hRt bm (Or.inl hw0)) gm_MO_interest w_1092 w_1093 w_1091 g_M rfl rfl rfl hl.1 rfl (Nat.le_of_ble_eq_true rfl) ⟨Nat.le_of_ble_eq_true rfl, Nat.le_of_ble_eq_true rfl⟩ d_LA_law_850 ⟨by show _ ≤ 600000; (try dsimp only); omega, by show _ ≤ 7302250; (try dsimp only); omega⟩) (fun r_5 h8 H9 locs hp9 hX9 hz9 hI => ?_)
      obtain ⟨rfl, e9⟩ := hp9
      rw [e9] at hI
      clear hX9 e9
      refine f_lc_eq (tgt := 859) hx hb d_LA_law_853 d_LA_law_854 (by decide) (fun c_6 => ?_) (fun c_6 => absurd rfl c_6)
      refine K _ _ _ _ _ (by (try dsimp only); omega) (by (try dsimp only); omega) ⟨tn, tx, ne, ef, rr, rm, nf, la, fl, fk, fd, fw, fv, sL, sR, Ls, th, du, wr, rn, rl, rD, rM, L9, hr, hc, hp⟩ hX hI ls ?_
      exact lv_sub hl [0, 1, 2, 3] rfl
    · obtain ⟨hi9, hpm9⟩ := hpl.2 i eL
      have hw1 : wr mn = 1 := hw2.mpr ⟨i, hi9, hpm9⟩
      by_cases hbad : (d2 < 0 ∨ 100000 < d2) ∨ u4 < 0 ∨ ¬ u4 ≤ 1
      · skip
        refine lv_aload_n hx hb d_LA_law_785 rfl (lv_at hl 1 rfl) ?_
        refine lv_aload_n hx hb d_LA_law_786 rfl (lv_at hl 0 rfl) ?_
        refine lv_iload_n hx hb d_LA_law_787 rfl (lv_at hl 3 rfl) ?_
        refine lv_iconst (v := 1) hx hb d_LA_law_788 (by decide) ?_
        refine lv_iadd hx hb d_LA_law_789 ?_
        refine f_asi (nI_add (9 * n) 1) ?_
        refine f_ialdn (k := ((9 * n) + 1)) (v := (nI mn)) hx hb hI g_b hfb (by omega) (by omega) hu1 d_LA_law_790 ?_
        refine lv_aload_n hx hb d_LA_law_791 rfl (lv_at hl 0 rfl) ?_
        refine lv_iload_n hx hb d_LA_law_792 rfl (lv_at hl 3 rfl) ?_
        refine lv_iconst (v := 2) hx hb d_LA_law_793 (by decide) ?_
        refine lv_iadd hx hb d_LA_law_794 ?_
        refine f_asi (nI_add (9 * n) 2) ?_
        refine f_ialdn (k := ((9 * n) + 2)) (v := u2) hx hb hI g_b hfb (by omega) (by omega) hu2 d_LA_law_795 ?_
        refine lv_i2l hx hb d_LA_law_796 rfl ?_
        refine lv_bipush (v := 32) hx hb d_LA_law_797 (by decide) ?_
        refine lv_lshl hx hb d_LA_law_799 rfl ?_
        refine lv_aload_n hx hb d_LA_law_800 rfl (lv_at hl 0 rfl) ?_
        refine lv_iload_n hx hb d_LA_law_801 rfl (lv_at hl 3 rfl) ?_
        refine lv_iconst (v := 3) hx hb d_LA_law_802 (by decide) ?_
        refine lv_iadd hx hb d_LA_law_803 ?_
        refine f_asi (nI_add (9 * n) 3) ?_
        refine f_ialdn (k := ((9 * n) + 3)) (v := u3) hx hb hI g_b hfb (by omega) (by omega) hu3 d_LA_law_804 ?_
        refine lv_i2l hx hb d_LA_law_805 rfl ?_
        refine lv_ldc2 (v := 4294967295) hx hb hown (hT _ w_1095) d_LA_law_806 ?_
        refine lv_land hx hb d_LA_law_809 ?_
        refine lv_lor hx hb d_LA_law_810 ?_
        refine f_asl hd2 ?_
        refine lv_aload_n hx hb d_LA_law_811 rfl (lv_at hl 0 rfl) ?_
        refine lv_iload_n hx hb d_LA_law_812 rfl (lv_at hl 3 rfl) ?_
        refine lv_iconst (v := 4) hx hb d_LA_law_813 (by decide) ?_
        refine lv_iadd hx hb d_LA_law_814 ?_
        refine f_asi (nI_add (9 * n) 4) ?_
        refine f_ialdn (k := ((9 * n) + 4)) (v := u4) hx hb hI g_b hfb (by omega) (by omega) hu4 d_LA_law_815 ?_
        refine f_calll hI (f_runV C hI (c_DR_interest_b l G h1 _ X T E F D I R Wr wa nr lr g_X nn pr pm th du chs hCh hnr (nI mn) d2 u4 i eL hbad) gm_DR_interest w_785 w_786 w_784 g_X rfl rfl rfl hl.1 rfl (Nat.le_of_ble_eq_true rfl) ⟨Nat.le_of_ble_eq_true rfl, Nat.le_of_ble_eq_true rfl⟩ d_LA_law_816 ⟨by show _ ≤ 600000; (try dsimp only); omega, by show _ ≤ 7302250; (try dsimp only); omega⟩) (fun r_7 h8 H9 locs hp9 hX9 hz9 hI => ?_)
        obtain ⟨rfl, e9⟩ := hp9
        rw [e9] at hI
        clear hX9 e9
        refine lv_aload_n hx hb d_LA_law_819 rfl (lv_at hl 2 rfl) ?_
        refine lv_aload_n hx hb d_LA_law_820 rfl (lv_at hl 0 rfl) ?_
        refine lv_iload_n hx hb d_LA_law_821 rfl (lv_at hl 3 rfl) ?_
        refine lv_iconst (v := 1) hx hb d_LA_law_822 (by decide) ?_
        refine lv_iadd hx hb d_LA_law_823 ?_
        refine f_asi (nI_add (9 * n) 1) ?_
        refine f_ialdn (k := ((9 * n) + 1)) (v := (nI mn)) hx hb hI g_b hfb (by omega) (by omega) hu1 d_LA_law_824 ?_
        refine lv_aload_n hx hb d_LA_law_825 rfl (lv_at hl 0 rfl) ?_
        refine lv_iload_n hx hb d_LA_law_826 rfl (lv_at hl 3 rfl) ?_
        refine lv_iconst (v := 2) hx hb d_LA_law_827 (by decide) ?_
        refine lv_iadd hx hb d_LA_law_828 ?_
        refine f_asi (nI_add (9 * n) 2) ?_
        refine f_ialdn (k := ((9 * n) + 2)) (v := u2) hx hb hI g_b hfb (by omega) (by omega) hu2 d_LA_law_829 ?_
        refine lv_i2l hx hb d_LA_law_830 rfl ?_
        refine lv_bipush (v := 32) hx hb d_LA_law_831 (by decide) ?_
        refine lv_lshl hx hb d_LA_law_833 rfl ?_
        refine lv_aload_n hx hb d_LA_law_834 rfl (lv_at hl 0 rfl) ?_
        refine lv_iload_n hx hb d_LA_law_835 rfl (lv_at hl 3 rfl) ?_
        refine lv_iconst (v := 3) hx hb d_LA_law_836 (by decide) ?_
        refine lv_iadd hx hb d_LA_law_837 ?_
        refine f_asi (nI_add (9 * n) 3) ?_
        refine f_ialdn (k := ((9 * n) + 3)) (v := u3) hx hb hI g_b hfb (by omega) (by omega) hu3 d_LA_law_838 ?_
        refine lv_i2l hx hb d_LA_law_839 rfl ?_
        refine lv_ldc2 (v := 4294967295) hx hb hown (hT _ w_1095) d_LA_law_840 ?_
        refine lv_land hx hb d_LA_law_843 ?_
        refine lv_lor hx hb d_LA_law_844 ?_
        refine f_asl hd2 ?_
        refine lv_aload_n hx hb d_LA_law_845 rfl (lv_at hl 0 rfl) ?_
        refine lv_iload_n hx hb d_LA_law_846 rfl (lv_at hl 3 rfl) ?_
        refine lv_iconst (v := 4) hx hb d_LA_law_847 (by decide) ?_
        refine lv_iadd hx hb d_LA_law_848 ?_
        refine f_asi (nI_add (9 * n) 4) ?_
        refine f_ialdn (k := ((9 * n) + 4)) (v := u4) hx hb hI g_b hfb (by omega) (by omega) hu4 d_LA_law_849 ?_
        refine f_calll hI (f_runV C hI (c_MO_interest_no l G h1 _ M mn d2 u4 mf g_M th du wr rn rl rD rM hRt bm (Or.inr hbad)) gm_MO_interest w_1092 w_1093 w_1091 g_M rfl rfl rfl hl.1 rfl (Nat.le_of_ble_eq_true rfl) ⟨Nat.le_of_ble_eq_true rfl, Nat.le_of_ble_eq_true rfl⟩ d_LA_law_850 ⟨by show _ ≤ 600000; (try dsimp only); omega, by show _ ≤ 7302250; (try dsimp only); omega⟩) (fun r_8 h8 H9 locs hp9 hX9 hz9 hI => ?_)
        obtain ⟨rfl, e9⟩ := hp9
        rw [e9] at hI
        clear hX9 e9
        refine f_lc_eq (tgt := 859) hx hb d_LA_law_853 d_LA_law_854 (by decide) (fun c_9 => ?_) (fun c_9 => absurd rfl c_9)
        refine K _ _ _ _ _ (by (try dsimp only); omega) (by (try dsimp only); omega) ⟨tn, tx, ne, ef, rr, rm, nf, la, fl, fk, fd, fw, fv, sL, sR, Ls, th, du, wr, rn, rl, rD, rM, L9, hr, hc, hp⟩ hX hI ls ?_
        exact lv_sub hl [0, 1, 2, 3] rfl
      · obtain ⟨dd, bd, hdd⟩ := day_of (fun q => hbad (Or.inl q))
        subst hdd
        have hp1 : ¬ u4 < 0 := fun q => hbad (Or.inr (Or.inl q))
        have hp2 : u4 ≤ 1 := Classical.byContradiction (fun q => hbad (Or.inr (Or.inr q)))
        refine lv_aload_n hx hb d_LA_law_785 rfl (lv_at hl 1 rfl) ?_
        refine lv_aload_n hx hb d_LA_law_786 rfl (lv_at hl 0 rfl) ?_
        refine lv_iload_n hx hb d_LA_law_787 rfl (lv_at hl 3 rfl) ?_
        refine lv_iconst (v := 1) hx hb d_LA_law_788 (by decide) ?_
        refine lv_iadd hx hb d_LA_law_789 ?_
        refine f_asi (nI_add (9 * n) 1) ?_
        refine f_ialdn (k := ((9 * n) + 1)) (v := (nI mn)) hx hb hI g_b hfb (by omega) (by omega) hu1 d_LA_law_790 ?_
        refine lv_aload_n hx hb d_LA_law_791 rfl (lv_at hl 0 rfl) ?_
        refine lv_iload_n hx hb d_LA_law_792 rfl (lv_at hl 3 rfl) ?_
        refine lv_iconst (v := 2) hx hb d_LA_law_793 (by decide) ?_
        refine lv_iadd hx hb d_LA_law_794 ?_
        refine f_asi (nI_add (9 * n) 2) ?_
        refine f_ialdn (k := ((9 * n) + 2)) (v := u2) hx hb hI g_b hfb (by omega) (by omega) hu2 d_LA_law_795 ?_
        refine lv_i2l hx hb d_LA_law_796 rfl ?_
        refine lv_bipush (v := 32) hx hb d_LA_law_797 (by decide) ?_
        refine lv_lshl hx hb d_LA_law_799 rfl ?_
        refine lv_aload_n hx hb d_LA_law_800 rfl (lv_at hl 0 rfl) ?_
        refine lv_iload_n hx hb d_LA_law_801 rfl (lv_at hl 3 rfl) ?_
        refine lv_iconst (v := 3) hx hb d_LA_law_802 (by decide) ?_
        refine lv_iadd hx hb d_LA_law_803 ?_
        refine f_asi (nI_add (9 * n) 3) ?_
        refine f_ialdn (k := ((9 * n) + 3)) (v := u3) hx hb hI g_b hfb (by omega) (by omega) hu3 d_LA_law_804 ?_
        refine lv_i2l hx hb d_LA_law_805 rfl ?_
        refine lv_ldc2 (v := 4294967295) hx hb hown (hT _ w_1095) d_LA_law_806 ?_
        refine lv_land hx hb d_LA_law_809 ?_
        refine lv_lor hx hb d_LA_law_810 ?_
        refine f_asl hd2 ?_
        refine lv_aload_n hx hb d_LA_law_811 rfl (lv_at hl 0 rfl) ?_
        refine lv_iload_n hx hb d_LA_law_812 rfl (lv_at hl 3 rfl) ?_
        refine lv_iconst (v := 4) hx hb d_LA_law_813 (by decide) ?_
        refine lv_iadd hx hb d_LA_law_814 ?_
        refine f_asi (nI_add (9 * n) 4) ?_
        refine f_ialdn (k := ((9 * n) + 4)) (v := u4) hx hb hI g_b hfb (by omega) (by omega) hu4 d_LA_law_815 ?_
        refine f_calll hI (f_runV C hI (c_DR_interest_ok l G h1 _ X T E F D I R Wr wa nr lr g_X nn pr pm th du chs hCh hnr ne ef rr rm hEd hoks hlate bth bdu mn dd i u4 eL hpm9 bm bd hp1 hp2) gm_DR_interest w_785 w_786 w_784 g_X rfl rfl rfl hl.1 rfl (Nat.le_of_ble_eq_true rfl) ⟨Nat.le_of_ble_eq_true rfl, Nat.le_of_ble_eq_true rfl⟩ d_LA_law_816 ⟨by show _ ≤ 600000; (try dsimp only); omega, by show _ ≤ 7302250; (try dsimp only); omega⟩) (fun r_10 h8 H9 locs hp9 hX9 hz9 hI => ?_)
        obtain ⟨rfl, e9⟩ := hp9
        rw [e9] at hI
        clear hX9 e9
        refine lv_aload_n hx hb d_LA_law_819 rfl (lv_at hl 2 rfl) ?_
        refine lv_aload_n hx hb d_LA_law_820 rfl (lv_at hl 0 rfl) ?_
        refine lv_iload_n hx hb d_LA_law_821 rfl (lv_at hl 3 rfl) ?_
        refine lv_iconst (v := 1) hx hb d_LA_law_822 (by decide) ?_
        refine lv_iadd hx hb d_LA_law_823 ?_
        refine f_asi (nI_add (9 * n) 1) ?_
        refine f_ialdn (k := ((9 * n) + 1)) (v := (nI mn)) hx hb hI g_b hfb (by omega) (by omega) hu1 d_LA_law_824 ?_
        refine lv_aload_n hx hb d_LA_law_825 rfl (lv_at hl 0 rfl) ?_
        refine lv_iload_n hx hb d_LA_law_826 rfl (lv_at hl 3 rfl) ?_
        refine lv_iconst (v := 2) hx hb d_LA_law_827 (by decide) ?_
        refine lv_iadd hx hb d_LA_law_828 ?_
        refine f_asi (nI_add (9 * n) 2) ?_
        refine f_ialdn (k := ((9 * n) + 2)) (v := u2) hx hb hI g_b hfb (by omega) (by omega) hu2 d_LA_law_829 ?_
        refine lv_i2l hx hb d_LA_law_830 rfl ?_
        refine lv_bipush (v := 32) hx hb d_LA_law_831 (by decide) ?_
        refine lv_lshl hx hb d_LA_law_833 rfl ?_
        refine lv_aload_n hx hb d_LA_law_834 rfl (lv_at hl 0 rfl) ?_
        refine lv_iload_n hx hb d_LA_law_835 rfl (lv_at hl 3 rfl) ?_
        refine lv_iconst (v := 3) hx hb d_LA_law_836 (by decide) ?_
        refine lv_iadd hx hb d_LA_law_837 ?_
        refine f_asi (nI_add (9 * n) 3) ?_
        refine f_ialdn (k := ((9 * n) + 3)) (v := u3) hx hb hI g_b hfb (by omega) (by omega) hu3 d_LA_law_838 ?_
        refine lv_i2l hx hb d_LA_law_839 rfl ?_
        refine lv_ldc2 (v := 4294967295) hx hb hown (hT _ w_1095) d_LA_law_840 ?_
        refine lv_land hx hb d_LA_law_843 ?_
        refine lv_lor hx hb d_LA_law_844 ?_
        refine f_asl hd2 ?_
        refine lv_aload_n hx hb d_LA_law_845 rfl (lv_at hl 0 rfl) ?_
        refine lv_iload_n hx hb d_LA_law_846 rfl (lv_at hl 3 rfl) ?_
        refine lv_iconst (v := 4) hx hb d_LA_law_847 (by decide) ?_
        refine lv_iadd hx hb d_LA_law_848 ?_
        refine f_asi (nI_add (9 * n) 4) ?_
        refine f_ialdn (k := ((9 * n) + 4)) (v := u4) hx hb hI g_b hfb (by omega) (by omega) hu4 d_LA_law_849 ?_
        refine f_calll hI (f_runV C hI (c_MO_interest_ok l G h1 _ M mn dd u4 mf g_M ne ef rr rm hEm th du wr rn rl rD rM hRt bm hw1 bd hp1 hp2) gm_MO_interest w_1092 w_1093 w_1091 g_M rfl rfl rfl hl.1 rfl (Nat.le_of_ble_eq_true rfl) ⟨Nat.le_of_ble_eq_true rfl, Nat.le_of_ble_eq_true rfl⟩ d_LA_law_850 ⟨by show _ ≤ 600000; (try dsimp only); omega, by show _ ≤ 7302250; (try dsimp only); omega⟩) (fun r_11 h8 H9 locs hp9 hX9 hz9 hI => ?_)
        obtain ⟨rfl, e9⟩ := hp9
        rw [e9] at hI
        clear hX9 e9
        refine f_lc_eq (tgt := 859) hx hb d_LA_law_853 d_LA_law_854 (by decide) (fun c_12 => ?_) (fun c_12 => absurd rfl c_12)
        refine K _ _ _ _ _ (by (try dsimp only); omega) (by (try dsimp only); omega) ⟨tn, tx, ne, ef, rr, rm, nf, la, fl, fk, fd, fw, fv, sL, sR, Ls, th, du, wr, rn, rl, rD, rM, L9, hr, hc, hp⟩ hX hI ls ?_
        exact lv_sub hl [0, 1, 2, 3] rfl
