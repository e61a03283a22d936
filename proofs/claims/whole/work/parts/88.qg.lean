set_option maxHeartbeats 8000000 in
set_option maxRecDepth 100000 in
/-- the law: difference -/
theorem q_difference {p : Program} {e : Env} {s : State} {m : MethodId} {below : List Frame} {meth : Method} {c : Code} (l : Launch) (G : gG) (h : fH) (b L X M n : Nat) (xs : Nat → Int32) (cS : ClassId) (C : gC G p s m #[Value.ref b] meth c (fA h s.heap.size) code 4 "DutyRulesLaw" meth.name) (hfb : fT s cS .int) (hK0 : cst G h b cS L xs) (bL : L ≤ 4608) (hn : 9 * n + 9 ≤ L)
    (K : ∀ (h2 : fH) (H : Heap) (locs : List Loc) (cs ss : Nat), cs ≤ 50 + 320 * (n + 1) → ss ≤ 190000 + 11800 * (n + 1) → LI G h2 X M → fX h s.heap.size h2 → fI G.1 g_cl (fA h s.heap.size) s.heap h2 H locs → ∀ ls : Array Slot, lv_has ls 4 [(0, .ref b), (1, .ref X), (2, .ref M), (3, .int (nI (9 * n)))] → W p l e room_1 s m #[Value.ref b] below meth c H locs cs ss (lw_Z below #[Value.ref b] s) (F0 m 859 ls []))
    : ∀ (h1 : fH) (H : Heap) (locs : List Loc) (cs ss : Nat), cs ≤ 50 + 320 * n → ss ≤ 190000 + 11800 * n → LI G h1 X M → fX h s.heap.size h1 → fI G.1 g_cl (fA h s.heap.size) s.heap h1 H locs → ∀ ls : Array Slot, lv_has ls 4 [(0, .ref b), (1, .ref X), (2, .ref M), (3, .int (nI (9 * n)))] → W p l e room_1 s m #[Value.ref b] below meth c H locs cs ss (lw_Z below #[Value.ref b] s) (F0 m 698 ls []) := by
  intro h1 H locs cs ss hcs hss hLI hX hI ls hl
  obtain ⟨hx, hb, hml, hown, hnm, hlk, hT, hG, hZ⟩ := id C
  have hK := hG.1
  have hsz : s.heap.size = s.heap.size := rfl
  obtain ⟨tn, tx, ne, ef, rr, rm, nf, la, fl, fk, fd, fw, fv, sL, sR, Ls, th, du, wr, rn, rl, rD, rM, L9, hr, hc, hp⟩ := hLI
  obtain ⟨mf, rg, g_M, hTx, hRd, hEm, hFf, v_13, hS0, hSh, hRt⟩ := id hr
  obtain ⟨T, E, F, D, I, R, Wr, wa, nr, lr, mm, A, fa, gq, nn, pr, pm, chs, lt, rs, hv, d, r1, r2, o1, g_X, ⟨hB, bmm⟩, hEd, hcR, hC, ⟨hD, hsh⟩, hIn, ⟨hS, hr12⟩, ⟨hCh, hnr⟩, hlr, hwr⟩ := id hc
  obtain ⟨hrep, hrm, bla, hmon, hz0⟩ := id hp
  have hKc := hK0.keepX hX
  have g_b := hKc.2.2.2
  have hn5 : n ≤ 511 := by omega
  have hoks := ed_ok hEm
  have hbd := rk_all hEm hFf
  obtain ⟨u1, hu1⟩ : ∃ z, xs (9 * n + 1) = z := ⟨_, rfl⟩
  obtain ⟨u2, hu2⟩ : ∃ z, xs (9 * n + 2) = z := ⟨_, rfl⟩
  obtain ⟨u3, hu3⟩ : ∃ z, xs (9 * n + 3) = z := ⟨_, rfl⟩
  obtain ⟨d2, hd2⟩ : ∃ z, (u2.toInt64 <<< ((32 : Int32).toInt64 &&& 63)) ||| (u3.toInt64 &&& 4294967295) = z := ⟨_, rfl⟩
  have hpmb := hCh.1
  obtain ⟨_, _, _, _, _, _, _, _, bn30, bth, bdu, bwr, brl⟩ := id hRt
  by_cases hbm : u1 < 0 ∨ 3001 ≤ u1
  · have eL := pm_bad hbm hpmb
    refine lv_aload_n hx hb d_LA_law_698 rfl (lv_at hl 1 rfl) ?_
    refine lv_aload_n hx hb d_LA_law_699 rfl (lv_at hl 0 rfl) ?_
    refine lv_iload_n hx hb d_LA_law_700 rfl (lv_at hl 3 rfl) ?_
    refine lv_iconst (v := 1) hx hb d_LA_law_701 (by decide) ?_
    refine lv_iadd hx hb d_LA_law_702 ?_
    refine f_asi (nI_add (9 * n) 1) ?_
    refine f_ialdn (k := ((9 * n) + 1)) (v := u1) hx hb hI g_b hfb (by omega) (by omega) hu1 d_LA_law_703 ?_
    refine lv_aload_n hx hb d_LA_law_704 rfl (lv_at hl 0 rfl) ?_
    refine lv_iload_n hx hb d_LA_law_705 rfl (lv_at hl 3 rfl) ?_
    refine lv_iconst (v := 2) hx hb d_LA_law_706 (by decide) ?_
    refine lv_iadd hx hb d_LA_law_707 ?_
    refine f_asi (nI_add (9 * n) 2) ?_
    refine f_ialdn (k := ((9 * n) + 2)) (v := u2) hx hb hI g_b hfb (by omega) (by omega) hu2 d_LA_law_708 ?_
    refine lv_i2l hx hb d_LA_law_709 rfl ?_
    refine lv_bipush (v := 32) hx hb d_LA_law_710 (by decide) ?_
    refine lv_lshl hx hb d_LA_law_712 rfl ?_
    refine lv_aload_n hx hb d_LA_law_713 rfl (lv_at hl 0 rfl) ?_
    refine lv_iload_n hx hb d_LA_law_714 rfl (lv_at hl 3 rfl) ?_
    refine lv_iconst (v := 3) hx hb d_LA_law_715 (by decide) ?_
    refine lv_iadd hx hb d_LA_law_716 ?_
    refine f_asi (nI_add (9 * n) 3) ?_
    refine f_ialdn (k := ((9 * n) + 3)) (v := u3) hx hb hI g_b hfb (by omega) (by omega) hu3 d_LA_law_717 ?_
    refine lv_i2l hx hb d_LA_law_718 rfl ?_
    refine lv_ldc2 (v := 4294967295) hx hb hown (hT _ w_1095) d_LA_law_719 ?_
    refine lv_land hx hb d_LA_law_722 ?_
    refine lv_lor hx hb d_LA_law_723 ?_
    refine f_asl hd2 ?_
    refine f_calll hI (f_runV C hI (c_DR_difference_a l G h1 _ X T E F D I R Wr wa nr lr g_X nn pr pm th du chs hCh hnr u1 d2 eL) gm_DR_difference w_774 w_775 w_773 g_X rfl rfl rfl hl.1 rfl (Nat.le_of_ble_eq_true rfl) ⟨Nat.le_of_ble_eq_true rfl, Nat.le_of_ble_eq_true rfl⟩ d_LA_law_724 ⟨by show _ ≤ 600000; (try dsimp only); omega, by show _ ≤ 7302250; (try dsimp only); omega⟩) (fun r_1 h8 H9 locs hp9 hX9 hz9 hI => ?_)
    obtain ⟨rfl, e9⟩ := hp9
    rw [e9] at hI
    clear hX9 e9
    refine lv_aload_n hx hb d_LA_law_727 rfl (lv_at hl 2 rfl) ?_
    refine lv_aload_n hx hb d_LA_law_728 rfl (lv_at hl 0 rfl) ?_
    refine lv_iload_n hx hb d_LA_law_729 rfl (lv_at hl 3 rfl) ?_
    refine lv_iconst (v := 1) hx hb d_LA_law_730 (by decide) ?_
    refine lv_iadd hx hb d_LA_law_731 ?_
    refine f_asi (nI_add (9 * n) 1) ?_
    refine f_ialdn (k := ((9 * n) + 1)) (v := u1) hx hb hI g_b hfb (by omega) (by omega) hu1 d_LA_law_732 ?_
    refine lv_aload_n hx hb d_LA_law_733 rfl (lv_at hl 0 rfl) ?_
    refine lv_iload_n hx hb d_LA_law_734 rfl (lv_at hl 3 rfl) ?_
    refine lv_iconst (v := 2) hx hb d_LA_law_735 (by decide) ?_
    refine lv_iadd hx hb d_LA_law_736 ?_
    refine f_asi (nI_add (9 * n) 2) ?_
    refine f_ialdn (k := ((9 * n) + 2)) (v := u2) hx hb hI g_b hfb (by omega) (by omega) hu2 d_LA_law_737 ?_
    refine lv_i2l hx hb d_LA_law_738 rfl ?_
    refine lv_bipush (v := 32) hx hb d_LA_law_739 (by decide) ?_
    refine lv_lshl hx hb d_LA_law_741 rfl ?_
    refine lv_aload_n hx hb d_LA_law_742 rfl (lv_at hl 0 rfl) ?_
    refine lv_iload_n hx hb d_LA_law_743 rfl (lv_at hl 3 rfl) ?_
    refine lv_iconst (v := 3) hx hb d_LA_law_744 (by decide) ?_
    refine lv_iadd hx hb d_LA_law_745 ?_
    refine f_asi (nI_add (9 * n) 3) ?_
    refine f_ialdn (k := ((9 * n) + 3)) (v := u3) hx hb hI g_b hfb (by omega) (by omega) hu3 d_LA_law_746 ?_
    refine lv_i2l hx hb d_LA_law_747 rfl ?_
    refine lv_ldc2 (v := 4294967295) hx hb hown (hT _ w_1095) d_LA_law_748 ?_
    refine lv_land hx hb d_LA_law_751 ?_
    refine lv_lor hx hb d_LA_law_752 ?_
    refine f_asl hd2 ?_
    refine f_calll hI (f_runV C hI (c_MO_difference_mo l G h1 _ M u1 d2 hbm) gm_MO_difference w_1088 w_1089 w_1087 g_M rfl rfl rfl hl.1 rfl (Nat.le_of_ble_eq_true rfl) ⟨Nat.le_of_ble_eq_true rfl, Nat.le_of_ble_eq_true rfl⟩ d_LA_law_753 ⟨by show _ ≤ 600000; (try dsimp only); omega, by show _ ≤ 7302250; (try dsimp only); omega⟩) (fun r_2 h8 H9 locs hp9 hX9 hz9 hI => ?_)
    obtain ⟨rfl, e9⟩ := hp9
    rw [e9] at hI
    clear hX9 e9
    refine f_lc_eq (tgt := 859) hx hb d_LA_law_756 d_LA_law_757 (by decide) (fun c_3 => ?_) (fun c_3 => absurd rfl c_3)
    refine K _ _ _ _ _ (by (try dsimp only); omega) (by (try dsimp only); omega) ⟨tn, tx, ne, ef, rr, rm, nf, la, fl, fk, fd, fw, fv, sL, sR, Ls, th, du, wr, rn, rl, rD, rM, L9, hr, hc, hp⟩ hX hI ls ?_
    exact lv_sub hl [0, 1, 2, 3] rfl
  · obtain ⟨mn, bm1, hmn⟩ := rng_of (N := 3001) (k := 3001) (by decide) rfl hbm
    subst hmn
    have bm : mn ≤ 3000 := by omega
    have hpl := pm_lst bm hpmb
    have hw2 := hwr mn bm
    have bw := bwr mn
    rcases eL : lst (pmP pm (nI mn)) nn with _ | i
    · have hw0 : wr mn = 0 := by
        have : ¬ wr mn = 1 := fun q => by obtain ⟨i, z1, z2⟩ := hw2.mp q; exact hpl.1.mp eL i z1 z2
        omega
      refine lv_aload_n hx hb d_LA_law_698 rfl (lv_at hl 1 rfl) ?_
      refine lv_aload_n hx hb d_LA_law_699 rfl (lv_at hl 0 rfl) ?_
      refine lv_iload_n hx hb d_LA_law_700 rfl (lv_at hl 3 rfl) ?_
      refine lv_iconst (v := 1) hx hb d_LA_law_701 (by decide) ?_
      refine lv_iadd hx hb d_LA_law_702 ?_
      refine f_asi (nI_add (9 * n) 1) ?_
      refine f_ialdn (k := ((9 * n) + 1)) (v := (nI mn)) hx hb hI g_b hfb (by omega) (by omega) hu1 d_LA_law_703 ?_
      refine lv_aload_n hx hb d_LA_law_704 rfl (lv_at hl 0 rfl) ?_
      refine lv_iload_n hx hb d_LA_law_705 rfl (lv_at hl 3 rfl) ?_
      refine lv_iconst (v := 2) hx hb d_LA_law_706 (by decide) ?_
      refine lv_iadd hx hb d_LA_law_707 ?_
      refine f_asi (nI_add (9 * n) 2) ?_
      refine f_ialdn (k := ((9 * n) + 2)) (v := u2) hx hb hI g_b hfb (by omega) (by omega) hu2 d_LA_law_708 ?_
      refine lv_i2l hx hb d_LA_law_709 rfl ?_
      refine lv_bipush (v := 32) hx hb d_LA_law_710 (by decide) ?_
      refine lv_lshl hx hb d_LA_law_712 rfl ?_
      refine lv_aload_n hx hb d_LA_law_713 rfl (lv_at hl 0 rfl) ?_
      refine lv_iload_n hx hb d_LA_law_714 rfl (lv_at hl 3 rfl) ?_
      refine lv_iconst (v := 3) hx hb d_LA_law_715 (by decide) ?_
      refine lv_iadd hx hb d_LA_law_716 ?_
      refine f_asi (nI_add (9 * n) 3) ?_
      refine f_ialdn (k := ((9 * n) + 3)) (v := u3) hx hb hI g_b hfb (by omega) (by omega) hu3 d_LA_law_717 ?_
      refine lv_i2l hx hb d_LA_law_718 rfl ?_
      refine lv_ldc2 (v := 4294967295) hx hb hown (hT _ w_1095) d_LA_law_719 ?_
      refine lv_land hx hb d_LA_law_722 ?_
      refine lv_lor hx hb d_LA_law_723 ?_
      refine f_asl hd2 ?_
      refine f_calll hI (f_runV C hI (c_DR_difference_a l G h1 _ X T E F D I R Wr wa nr lr g_X nn pr pm th du chs hCh hnr (nI mn) d2 eL) gm_DR_difference w_774 w_775 w_773 g_X rfl rfl rfl hl.1 rfl (Nat.le_of_ble_eq_true rfl) ⟨Nat.le_of_ble_eq_true rfl, Nat.le_of_ble_eq_true rfl⟩ d_LA_law_724 ⟨by show _ ≤ 600000; (try dsimp only); omega, by show _ ≤ 7302250; (try dsimp only); omega⟩) (fun r_4 h8 H9 locs hp9 hX9 hz9 hI => ?_)
      obtain ⟨rfl, e9⟩ := hp9
      rw [e9] at hI
      clear hX9 e9
      refine lv_aload_n hx hb d_LA_law_727 rfl (lv_at hl 2 rfl) ?_
      refine lv_aload_n hx hb d_LA_law_728 rfl (lv_at hl 0 rfl) ?_
      refine lv_iload_n hx hb d_LA_law_729 rfl (lv_at hl 3 rfl) ?_
      refine lv_iconst (v := 1) hx hb d_LA_law_730 (by decide) ?_
      refine lv_iadd hx hb d_LA_law_731 ?_
      refine f_asi (nI_add (9 * n) 1) ?_
      refine f_ialdn (k := ((9 * n) + 1)) (v := (nI mn)) hx hb hI g_b hfb (by omega) (by omega) hu1 d_LA_law_732 ?_
      refine lv_aload_n hx hb d_LA_law_733 rfl (lv_at hl 0 rfl) ?_
      refine lv_iload_n hx hb d_LA_law_734 rfl (lv_at hl 3 rfl) ?_
      refine lv_iconst (v := 2) hx hb d_LA_law_735 (by decide) ?_
      refine lv_iadd hx hb d_LA_law_736 ?_
      refine f_asi (nI_add (9 * n) 2) ?_
      refine f_ialdn (k := ((9 * n) + 2)) (v := u2) hx hb hI g_b hfb (by omega) (by omega) hu2 d_LA_law_737 ?_
      refine lv_i2l hx hb d_LA_law_738 rfl ?_
      refine lv_bipush (v := 32) hx hb d_LA_law_739 (by decide) ?_
      refine lv_lshl hx hb d_LA_law_741 rfl ?_
      refine lv_aload_n hx hb d_LA_law_742 rfl (lv_at hl 0 rfl) ?_
      refine lv_iload_n hx hb d_LA_law_743 rfl (lv_at hl 3 rfl) ?_
      refine lv_iconst (v := 3) hx hb d_LA_law_744 (by decide) ?_
      refine lv_iadd hx hb d_LA_law_745 ?_
      refine f_asi (nI_add (9 * n) 3) ?_
      refine f_ialdn (k := ((9 * n) + 3)) (v := u3) hx hb hI g_b hfb (by omega) (by omega) hu3 d_LA_law_746 ?_
      refine lv_i2l hx hb d_LA_law_747 rfl ?_
      refine lv_ldc2 (v := 4294967295) hx hb hown (hT _ w_1095) d_LA_law_748 ?_
      refine lv_land hx hb d_LA_law_751 ?_
      refine lv_lor hx hb d_LA_law_752 ?_
      refine f_asl hd2 ?_
      refine f_calll hI (f_runV C hI (c_MO_difference_no l G h1 _ M mn d2 mf g_M th du wr rn rl rD rM hRt bm (Or.inl hw0)) gm_MO_difference w_1088 w_1089 w_1087 g_M rfl rfl rfl hl.1 rfl (Nat.le_of_ble_eq_true rfl) ⟨Nat.le_of_ble_eq_true rfl, Nat.le_of_ble_eq_true rfl⟩ d_LA_law_753 ⟨by show _ ≤ 600000; (try dsimp only); omega, by show _ ≤ 7302250; (try dsimp only); omega⟩) (fun r_5 h8 H9 locs hp9 hX9 hz9 hI => ?_)
      obtain ⟨rfl, e9⟩ := hp9
      rw [e9] at hI
      clear hX9 e9
      refine f_lc_eq (tgt := 859) hx hb d_LA_law_756 d_LA_law_757 (by decide) (fun c_6 => ?_) (fun c_6 => absurd rfl c_6)
      refine K _ _ _ _ _ (by (try dsimp only); omega) (by (try dsimp only); omega) ⟨tn, tx, ne, ef, rr, rm, nf, la, fl, fk, fd, fw, fv, sL, sR, Ls, th, du, wr, rn, rl, rD, rM, L9, hr, hc, hp⟩ hX hI ls ?_
      exact lv_sub hl [0, 1, 2, 3] rfl
    · obtain ⟨hi9, hpm9⟩ := hpl.2 i eL
      have hw1 : wr mn = 1 := hw2.mpr ⟨i, hi9, hpm9⟩
      by_cases hbad : d2 < 0 ∨ 100000 < d2
      · skip
        refine lv_aload_n hx hb d_LA_law_698 rfl (lv_at hl 1 rfl) ?_
        refine lv_aload_n hx hb d_LA_law_699 rfl (lv_at hl 0 rfl) ?_
        refine lv_iload_n hx hb d_LA_law_700 rfl (lv_at hl 3 rfl) ?_
        refine lv_iconst (v := 1) hx hb d_LA_law_701 (by decide) ?_
        refine lv_iadd hx hb d_LA_law_702 ?_
        refine f_asi (nI_add (9 * n) 1) ?_
        refine f_ialdn (k := ((9 * n) + 1)) (v := (nI mn)) hx hb hI g_b hfb (by omega) (by omega) hu1 d_LA_law_703 ?_
        refine lv_aload_n hx hb d_LA_law_704 rfl (lv_at hl 0 rfl) ?_
        refine lv_iload_n hx hb d_LA_law_705 rfl (lv_at hl 3 rfl) ?_
        refine lv_iconst (v := 2) hx hb d_LA_law_706 (by decide) ?_
        refine lv_iadd hx hb d_LA_law_707 ?_
        refine f_asi (nI_add (9 * n) 2) ?_
        refine f_ialdn (k := ((9 * n) + 2)) (v := u2) hx hb hI g_b hfb (by omega) (by omega) hu2 d_LA_law_708 ?_
        refine lv_i2l hx hb d_LA_law_709 rfl ?_
        refine lv_bipush (v := 32) hx hb d_LA_law_710 (by decide) ?_
        refine lv_lshl hx hb d_LA_law_712 rfl ?_
        refine lv_aload_n hx hb d_LA_law_713 rfl (lv_at hl 0 rfl) ?_
        refine lv_iload_n hx hb d_LA_law_714 rfl (lv_at hl 3 rfl) ?_
        refine lv_iconst (v := 3) hx hb d_LA_law_715 (by decide) ?_
        refine lv_iadd hx hb d_LA_law_716 ?_
        refine f_asi (nI_add (9 * n) 3) ?_
        refine f_ialdn (k := ((9 * n) + 3)) (v := u3) hx hb hI g_b hfb (by omega) (by omega) hu3 d_LA_law_717 ?_
        refine lv_i2l hx hb d_LA_law_718 rfl ?_
        refine lv_ldc2 (v := 4294967295) hx hb hown (hT _ w_1095) d_LA_law_719 ?_
        refine lv_land hx hb d_LA_law_722 ?_
        refine lv_lor hx hb d_LA_law_723 ?_
        refine f_asl hd2 ?_
        refine f_calll hI (f_runV C hI (c_DR_difference_b l G h1 _ X T E F D I R Wr wa nr lr g_X nn pr pm th du chs hCh hnr (nI mn) d2 i eL hbad) gm_DR_difference w_774 w_775 w_773 g_X rfl rfl rfl hl.1 rfl (Nat.le_of_ble_eq_true rfl) ⟨Nat.le_of_ble_eq_true rfl, Nat.le_of_ble_eq_true rfl⟩ d_LA_law_724 ⟨by show _ ≤ 600000; (try dsimp only); omega, by show _ ≤ 7302250; (try dsimp only); omega⟩) (fun r_7 h8 H9 locs hp9 hX9 hz9 hI => ?_)
        obtain ⟨rfl, e9⟩ := hp9
        rw [e9] at hI
        clear hX9 e9
        refine lv_aload_n hx hb d_LA_law_727 rfl (lv_at hl 2 rfl) ?_
        refine lv_aload_n hx hb d_LA_law_728 rfl (lv_at hl 0 rfl) ?_
        refine lv_iload_n hx hb d_LA_law_729 rfl (lv_at hl 3 rfl) ?_
        refine lv_iconst (v := 1) hx hb d_LA_law_730 (by decide) ?_
        refine lv_iadd hx hb d_LA_law_731 ?_
        refine f_asi (nI_add (9 * n) 1) ?_
        refine f_ialdn (k := ((9 * n) + 1)) (v := (nI mn)) hx hb hI g_b hfb (by omega) (by omega) hu1 d_LA_law_732 ?_
        refine lv_aload_n hx hb d_LA_law_733 rfl (lv_at hl 0 rfl) ?_
        refine lv_iload_n hx hb d_LA_law_734 rfl (lv_at hl 3 rfl) ?_
        refine lv_iconst (v := 2) hx hb d_LA_law_735 (by decide) ?_
        refine lv_iadd hx hb d_LA_law_736 ?_
        refine f_asi (nI_add (9 * n) 2) ?_
        refine f_ialdn (k := ((9 * n) + 2)) (v := u2) hx hb hI g_b hfb (by omega) (by omega) hu2 d_LA_law_737 ?_
        refine lv_i2l hx hb d_LA_law_738 rfl ?_
        refine lv_bipush (v := 32) hx hb d_LA_law_739 (by decide) ?_
        refine lv_lshl hx hb d_LA_law_741 rfl ?_
        refine lv_aload_n hx hb d_LA_law_742 rfl (lv_at hl 0 rfl) ?_
        refine lv_iload_n hx hb d_LA_law_743 rfl (lv_at hl 3 rfl) ?_
        refine lv_iconst (v := 3) hx hb d_LA_law_744 (by decide) ?_
        refine lv_iadd hx hb d_LA_law_745 ?_
        refine f_asi (nI_add (9 * n) 3) ?_
        refine f_ialdn (k := ((9 * n) + 3)) (v := u3) hx hb hI g_b hfb (by omega) (by omega) hu3 d_LA_law_746 ?_
        refine lv_i2l hx hb d_LA_law_747 rfl ?_
        refine lv_ldc2 (v := 4294967295) hx hb hown (hT _ w_1095) d_LA_law_748 ?_
        refine lv_land hx hb d_LA_law_751 ?_
        refine lv_lor hx hb d_LA_law_752 ?_
        refine f_asl hd2 ?_
        refine f_calll hI (f_runV C hI (c_MO_difference_no l G h1 _ M mn d2 mf g_M th du wr rn rl rD rM hRt bm (Or.inr hbad)) gm_MO_difference w_1088 w_1089 w_1087 g_M rfl rfl rfl hl.1 rfl (Nat.le_of_ble_eq_true rfl) ⟨Nat.le_of_ble_eq_true rfl, Nat.le_of_ble_eq_true rfl⟩ d_LA_law_753 ⟨by show _ ≤ 600000; (try dsimp only); omega, by show _ ≤ 7302250; (try dsimp only); omega⟩) (fun r_8 h8 H9 locs hp9 hX9 hz9 hI => ?_)
        obtain ⟨rfl, e9⟩ := hp9
        rw [e9] at hI
        clear hX9 e9
        refine f_lc_eq (tgt := 859) hx hb d_LA_law_756 d_LA_law_757 (by decide) (fun c_9 => ?_) (fun c_9 => absurd rfl c_9)
        refine K _ _ _ _ _ (by (try dsimp only); omega) (by (try dsimp only); omega) ⟨tn, tx, ne, ef, rr, rm, nf, la, fl, fk, fd, fw, fv, sL, sR, Ls, th, du, wr, rn, rl, rD, rM, L9, hr, hc, hp⟩ hX hI ls ?_
        exact lv_sub hl [0, 1, 2, 3] rfl
      · obtain ⟨oo, bo, hoo⟩ := day_of hbad
        subst hoo
        refine lv_aload_n hx hb d_LA_law_698 rfl (lv_at hl 1 rfl) ?_
        refine lv_aload_n hx hb d_LA_law_699 rfl (lv_at hl 0 rfl) ?_
        refine lv_iload_n hx hb d_LA_law_700 rfl (lv_at hl 3 rfl) ?_
        refine lv_iconst (v := 1) hx hb d_LA_law_701 (by decide) ?_
        refine lv_iadd hx hb d_LA_law_702 ?_
        refine f_asi (nI_add (9 * n) 1) ?_
        refine f_ialdn (k := ((9 * n) + 1)) (v := (nI mn)) hx hb hI g_b hfb (by omega) (by omega) hu1 d_LA_law_703 ?_
        refine lv_aload_n hx hb d_LA_law_704 rfl (lv_at hl 0 rfl) ?_
        refine lv_iload_n hx hb d_LA_law_705 rfl (lv_at hl 3 rfl) ?_
        refine lv_iconst (v := 2) hx hb d_LA_law_706 (by decide) ?_
        refine lv_iadd hx hb d_LA_law_707 ?_
        refine f_asi (nI_add (9 * n) 2) ?_
        refine f_ialdn (k := ((9 * n) + 2)) (v := u2) hx hb hI g_b hfb (by omega) (by omega) hu2 d_LA_law_708 ?_
        refine lv_i2l hx hb d_LA_law_709 rfl ?_
        refine lv_bipush (v := 32) hx hb d_LA_law_710 (by decide) ?_
        refine lv_lshl hx hb d_LA_law_712 rfl ?_
        refine lv_aload_n hx hb d_LA_law_713 rfl (lv_at hl 0 rfl) ?_
        refine lv_iload_n hx hb d_LA_law_714 rfl (lv_at hl 3 rfl) ?_
        refine lv_iconst (v := 3) hx hb d_LA_law_715 (by decide) ?_
        refine lv_iadd hx hb d_LA_law_716 ?_
        refine f_asi (nI_add (9 * n) 3) ?_
        refine f_ialdn (k := ((9 * n) + 3)) (v := u3) hx hb hI g_b hfb (by omega) (by omega) hu3 d_LA_law_717 ?_
        refine lv_i2l hx hb d_LA_law_718 rfl ?_
        refine lv_ldc2 (v := 4294967295) hx hb hown (hT _ w_1095) d_LA_law_719 ?_
        refine lv_land hx hb d_LA_law_722 ?_
        refine lv_lor hx hb d_LA_law_723 ?_
        refine f_asl hd2 ?_
        have hzA := hI.2.2.2.1
        refine f_calll hI (f_runV C hI (c_DR_difference_ok l G h1 _ X T E F D I R Wr wa nr lr g_X ne ef rr rm hEd A fa gq nf la fl fk fd fw fv hC hoks hbd nn pr pm th du chs hCh hnr bth bdu hIn mn oo i eL hpm9 bm bo) gm_DR_difference w_774 w_775 w_773 g_X rfl rfl rfl hl.1 rfl (Nat.le_of_ble_eq_true rfl) ⟨Nat.le_of_ble_eq_true rfl, Nat.le_of_ble_eq_true rfl⟩ d_LA_law_724 ⟨by show _ ≤ 600000; (try dsimp only); omega, by show _ ≤ 7302250; (try dsimp only); omega⟩) (fun r_10 h9 H9 locs hp9 hX9 hz9 hI => ?_)
        obtain ⟨rfl, hIn9, hF9⟩ := hp9
        have hX := fX.tr (Nat.le_trans (Nat.le_of_eq hsz.symm) hzA) hX hX9
        have hFc : fF (inR [13, 14, 15, 16, 17]) h1 h9 := hF9.mono (fun r9 o9 z => (by simp only [inR, inD, inXD, inRt, List.mem_cons, List.not_mem_nil, or_false] at z ⊢; omega : inR [13, 14, 15, 16, 17] r9 o9))
        have hr := hr.keep hFc (by decide)
        obtain ⟨mf, rg, g_M, hTx, hRd, hEm, hFf, v_13, hS0, hSh, hRt⟩ := id hr
        have hKc := hK0.keepX hX
        have g_b := hKc.2.2.2
        have hS8 := hS.keepF hFc (nr_1 hr12 (by decide)) (nr_2 hr12 (by decide))
        have hc9 : cAll G h9 X tn tx ne ef rr rm nf la fl fk fd fw fv sL sR Ls th du wr rn rl rD rM L9 := ⟨T, E, F, D, I, R, Wr, wa, nr, lr, mm, A, fa, gq, nn, pr, pm, chs, lt, rs, hv, d, r1, r2, o1, hFc _ _ _ _ g_X (by decide), ⟨hB.keepF hFc (by decide) (by decide), bmm⟩, hEd.keepF hFc (by decide), hcR.keepF hFc (by decide) (by decide) (by decide), hC.keepF hFc (by decide) (by decide) (by decide), ⟨hD.keepF hF9 (fun r9 q1 q2 q => by have := q.2.2; omega), hsh⟩, hIn9, ⟨hS8, hr12⟩, ⟨hCh.keepF hFc (fun r9 o9 q1 q2 q => by simp only [inR, List.mem_cons, List.not_mem_nil, or_false] at q; omega), hnr⟩, hlr, hwr⟩
        refine lv_aload_n hx hb d_LA_law_727 rfl (lv_at hl 2 rfl) ?_
        refine lv_aload_n hx hb d_LA_law_728 rfl (lv_at hl 0 rfl) ?_
        refine lv_iload_n hx hb d_LA_law_729 rfl (lv_at hl 3 rfl) ?_
        refine lv_iconst (v := 1) hx hb d_LA_law_730 (by decide) ?_
        refine lv_iadd hx hb d_LA_law_731 ?_
        refine f_asi (nI_add (9 * n) 1) ?_
        refine f_ialdn (k := ((9 * n) + 1)) (v := (nI mn)) hx hb hI g_b hfb (by omega) (by omega) hu1 d_LA_law_732 ?_
        refine lv_aload_n hx hb d_LA_law_733 rfl (lv_at hl 0 rfl) ?_
        refine lv_iload_n hx hb d_LA_law_734 rfl (lv_at hl 3 rfl) ?_
        refine lv_iconst (v := 2) hx hb d_LA_law_735 (by decide) ?_
        refine lv_iadd hx hb d_LA_law_736 ?_
        refine f_asi (nI_add (9 * n) 2) ?_
        refine f_ialdn (k := ((9 * n) + 2)) (v := u2) hx hb hI g_b hfb (by omega) (by omega) hu2 d_LA_law_737 ?_
        refine lv_i2l hx hb d_LA_law_738 rfl ?_
        refine lv_bipush (v := 32) hx hb d_LA_law_739 (by decide) ?_
        refine lv_lshl hx hb d_LA_law_741 rfl ?_
        refine lv_aload_n hx hb d_LA_law_742 rfl (lv_at hl 0 rfl) ?_
        refine lv_iload_n hx hb d_LA_law_743 rfl (lv_at hl 3 rfl) ?_
        refine lv_iconst (v := 3) hx hb d_LA_law_744 (by decide) ?_
        refine lv_iadd hx hb d_LA_law_745 ?_
        refine f_asi (nI_add (9 * n) 3) ?_
        refine f_ialdn (k := ((9 * n) + 3)) (v := u3) hx hb hI g_b hfb (by omega) (by omega) hu3 d_LA_law_746 ?_
        refine lv_i2l hx hb d_LA_law_747 rfl ?_
        refine lv_ldc2 (v := 4294967295) hx hb hown (hT _ w_1095) d_LA_law_748 ?_
        refine lv_land hx hb d_LA_law_751 ?_
        refine lv_lor hx hb d_LA_law_752 ?_
        refine f_asl hd2 ?_
        have hzA := hI.2.2.2.1
        refine f_calll hI (f_runV C hI (c_MO_difference_ok l G h9 _ M mn oo mf g_M nf fl fk fd fw fv hFf ne ef rr rm hEm hS0 th du wr rn rl rD rM hRt bm hw1 bo) gm_MO_difference w_1088 w_1089 w_1087 g_M rfl rfl rfl hl.1 rfl (Nat.le_of_ble_eq_true rfl) ⟨Nat.le_of_ble_eq_true rfl, Nat.le_of_ble_eq_true rfl⟩ d_LA_law_753 ⟨by show _ ≤ 600000; (try dsimp only); omega, by show _ ≤ 7302250; (try dsimp only); omega⟩) (fun r_11 h9 H9 locs hp9 hX9 hz9 hI => ?_)
        obtain ⟨rfl, mf2, g_M, hm9, hS09, hF9⟩ := hp9
        have hX := fX.tr (Nat.le_trans (Nat.le_of_eq hsz.symm) hzA) hX hX9
        have hr : rAll G h9 M tn tx ne ef rr rm nf la fl fk fd fw fv sL sR Ls th du wr rn rl rD rM := ⟨mf2, rg, g_M, hTx.keep (fun j q1 q2 => hm9 j (by omega)) hF9 (by decide), hRd.keep (fun j q1 q2 => hm9 j (by omega)) hF9 (by decide), hEm.keep (fun j q1 q2 => hm9 j (by omega)) hF9 (by decide), hFf.keep (fun j q1 q2 => hm9 j (by omega)) hF9 (by decide), (hm9 13 (by omega)).trans v_13, hS09, hSh.keep (fun j q1 q2 => hm9 j (by omega)) hF9 (by decide), hRt.keep (fun j q1 q2 => hm9 j (by omega)) hF9 (by decide)⟩
        have hc9 := hc9.keep hF9 (by decide)
        refine f_lc_eq (tgt := 859) hx hb d_LA_law_756 d_LA_law_757 (by decide) (fun c_12 => ?_) (fun c_12 => absurd rfl c_12)
        refine K _ _ _ _ _ (by (try dsimp only); omega) (by (try dsimp only); omega) ⟨tn, tx, ne, ef, rr, rm, nf, la, fl, fk, fd, fw, fv, sL, sR, Ls, th, du, wr, rn, rl, rD, rM, L9, hr, hc9, hp⟩ hX hI ls ?_
        exact lv_sub hl [0, 1, 2, 3] rfl
set_option maxHeartbeats 8000000 in
set_option maxRecDepth 100000 in
/-- the law: returned -/
theorem q_returned {p : Program} {e : Env} {s : State} {m : MethodId} {below : List Frame} {meth : Method} {c : Code} (l : Launch) (G : gG) (h : fH) (b L X M n : Nat) (xs : Nat → Int32) (cS : ClassId) (C : gC G p s m #[Value.ref b] meth c (fA h s.heap.size) code 4 "DutyRulesLaw" meth.name) (hfb : fT s cS .int) (hK0 : cst G h b cS L xs) (bL : L ≤ 4608) (hn : 9 * n + 9 ≤ L)
    (K : ∀ (h2 : fH) (H : Heap) (locs : List Loc) (cs ss : Nat), cs ≤ 50 + 320 * (n + 1) → ss ≤ 190000 + 11800 * (n + 1) → LI G h2 X M → fX h s.heap.size h2 → fI G.1 g_cl (fA h s.heap.size) s.heap h2 H locs → ∀ ls : Array Slot, lv_has ls 4 [(0, .ref b), (1, .ref X), (2, .ref M), (3, .int (nI (9 * n)))] → W p l e room_1 s m #[Value.ref b] below meth c H locs cs ss (lw_Z below #[Value.ref b] s) (F0 m 859 ls []))
    : ∀ (h1 : fH) (H : Heap) (locs : List Loc) (cs ss : Nat), cs ≤ 50 + 320 * n → ss ≤ 190000 + 11800 * n → LI G h1 X M → fX h s.heap.size h1 → fI G.1 g_cl (fA h s.heap.size) s.heap h1 H locs → ∀ ls : Array Slot, lv_has ls 4 [(0, .ref b), (1, .ref X), (2, .ref M), (3, .int (nI (9 * n)))] → W p l e room_1 s m #[Value.ref b] below meth c H locs cs ss (lw_Z below #[Value.ref b] s) (F0 m 641 ls []) := by
  intro h1 H locs cs ss hcs hss hLI hX hI ls hl
  obtain ⟨hx, hb, hml, hown, hnm, hlk, hT, hG, hZ⟩ := id C
  have hK := hG.1
  have hsz : s.heap.size = s.heap.size := rfl
  obtain ⟨tn, tx, ne, ef, rr, rm, nf, la, fl, fk, fd, fw, fv, sL, sR, Ls, th, du, wr, rn, rl, rD, rM, L9, hr, hc, hp⟩ := hLI
  obtain ⟨mf, rg, g_M, hTx, hRd, hEm, hFf, v_13, hS0, hSh, hRt⟩ := id hr
  obtain ⟨T, E, F, D, I, R, Wr, wa, nr, lr, mm, A, fa, gq, nn, pr, pm, chs, lt, rs, hv, d, r1, r2, o1, g_X, ⟨hB, bmm⟩, hEd, hcR, hC, ⟨hD, hsh⟩, hIn, ⟨hS, hr12⟩, ⟨hCh, hnr⟩, hlr, hwr⟩ := id hc
  obtain ⟨hrep, hrm, bla, hmon, hz0⟩ := id hp
  have hKc := hK0.keepX hX
  have g_b := hKc.2.2.2
  have hn5 : n ≤ 511 := by omega
  have hoks := ed_ok hEm
  have hbd := rk_all hEm hFf
  obtain ⟨u1, hu1⟩ : ∃ z, xs (9 * n + 1) = z := ⟨_, rfl⟩
  have hpmb := hCh.1
  obtain ⟨_, _, _, _, _, _, _, _, bn30, bth, bdu, bwr, brl⟩ := id hRt
  by_cases hbm : u1 < 0 ∨ 3001 ≤ u1
  · skip
    refine lv_aload_n hx hb d_LA_law_641 rfl (lv_at hl 1 rfl) ?_
    refine lv_aload_n hx hb d_LA_law_642 rfl (lv_at hl 0 rfl) ?_
    refine lv_iload_n hx hb d_LA_law_643 rfl (lv_at hl 3 rfl) ?_
    refine lv_iconst (v := 1) hx hb d_LA_law_644 (by decide) ?_
    refine lv_iadd hx hb d_LA_law_645 ?_
    refine f_asi (nI_add (9 * n) 1) ?_
    refine f_ialdn (k := ((9 * n) + 1)) (v := u1) hx hb hI g_b hfb (by omega) (by omega) hu1 d_LA_law_646 ?_
    refine f_calli hI (f_runV C hI (c_DR_returned_no l G h1 _ X T E F D I R Wr wa nr lr g_X u1 hbm) gm_DR_returned w_709 w_710 w_708 g_X rfl rfl rfl hl.1 rfl (Nat.le_of_ble_eq_true rfl) ⟨Nat.le_of_ble_eq_true rfl, Nat.le_of_ble_eq_true rfl⟩ d_LA_law_647 ⟨by show _ ≤ 600000; (try dsimp only); omega, by show _ ≤ 7302250; (try dsimp only); omega⟩) (fun r_1 h8 H9 locs hp9 hX9 hz9 hI => ?_)
    obtain ⟨rfl, e9⟩ := hp9
    rw [e9] at hI
    clear hX9 e9
    refine lv_aload_n hx hb d_LA_law_650 rfl (lv_at hl 2 rfl) ?_
    refine lv_aload_n hx hb d_LA_law_651 rfl (lv_at hl 0 rfl) ?_
    refine lv_iload_n hx hb d_LA_law_652 rfl (lv_at hl 3 rfl) ?_
    refine lv_iconst (v := 1) hx hb d_LA_law_653 (by decide) ?_
    refine lv_iadd hx hb d_LA_law_654 ?_
    refine f_asi (nI_add (9 * n) 1) ?_
    refine f_ialdn (k := ((9 * n) + 1)) (v := u1) hx hb hI g_b hfb (by omega) (by omega) hu1 d_LA_law_655 ?_
    refine f_calli hI (f_runV C hI (c_MO_returned_no l G h1 _ M u1 hbm) gm_MO_returned w_1076 w_1077 w_1075 g_M rfl rfl rfl hl.1 rfl (Nat.le_of_ble_eq_true rfl) ⟨Nat.le_of_ble_eq_true rfl, Nat.le_of_ble_eq_true rfl⟩ d_LA_law_656 ⟨by show _ ≤ 600000; (try dsimp only); omega, by show _ ≤ 7302250; (try dsimp only); omega⟩) (fun r_2 h8 H9 locs hp9 hX9 hz9 hI => ?_)
    obtain ⟨rfl, e9⟩ := hp9
    rw [e9] at hI
    clear hX9 e9
    refine lv_icmp_eq (tgt := 859) hx hb d_LA_law_659 (by decide) (fun c_3 => ?_) (fun c_3 => absurd rfl c_3)
    refine K _ _ _ _ _ (by (try dsimp only); omega) (by (try dsimp only); omega) ⟨tn, tx, ne, ef, rr, rm, nf, la, fl, fk, fd, fw, fv, sL, sR, Ls, th, du, wr, rn, rl, rD, rM, L9, hr, hc, hp⟩ hX hI ls ?_
    exact lv_sub hl [0, 1, 2, 3] rfl
  · obtain ⟨mn, bm1, hmn⟩ := rng_of (N := 3001) (k := 3001) (by decide) rfl hbm
    subst hmn
    have bm : mn ≤ 3000 := by omega
    have hpl := pm_lst bm hpmb
    have hw2 := hwr mn bm
    have bw := bwr mn
    have hz9 : lst (pmP pm (nI mn)) nn = none → ∀ l, l < 30 → th (mn * 30 + l) = 0 := fun eL l hl => hz0 mn l bm hl (by
      have : ¬ wr mn = 1 := fun q => by obtain ⟨i, z1, z2⟩ := hw2.mp q; exact hpl.1.mp eL i z1 z2
      omega)
    refine lv_aload_n hx hb d_LA_law_641 rfl (lv_at hl 1 rfl) ?_
    refine lv_aload_n hx hb d_LA_law_642 rfl (lv_at hl 0 rfl) ?_
    refine lv_iload_n hx hb d_LA_law_643 rfl (lv_at hl 3 rfl) ?_
    refine lv_iconst (v := 1) hx hb d_LA_law_644 (by decide) ?_
    refine lv_iadd hx hb d_LA_law_645 ?_
    refine f_asi (nI_add (9 * n) 1) ?_
    refine f_ialdn (k := ((9 * n) + 1)) (v := (nI mn)) hx hb hI g_b hfb (by omega) (by omega) hu1 d_LA_law_646 ?_
    have hzA := hI.2.2.2.1
    refine f_calli hI (f_runV C hI (c_DR_returned_ok l G h1 _ X T E F D I R Wr wa nr lr g_X ne ef rr rm hEd A fa gq nf la fl fk fd fw fv hC hoks hbd nn pr pm th du chs hCh hnr bth bdu hIn mn bm rl rD rM hz9 (fun l q1 q2 => hmon mn l bm q1 q2)) gm_DR_returned w_709 w_710 w_708 g_X rfl rfl rfl hl.1 rfl (Nat.le_of_ble_eq_true rfl) ⟨Nat.le_of_ble_eq_true rfl, Nat.le_of_ble_eq_true rfl⟩ d_LA_law_647 ⟨by show _ ≤ 600000; (try dsimp only); omega, by show _ ≤ 7302250; (try dsimp only); omega⟩) (fun r_4 h9 H9 locs hp9 hX9 hz9 hI => ?_)
    obtain ⟨th2, du2, rn2, rl2, rD2, rM2, nn2, pr2, pm2, chs2, i2, hrs, rfl, g_X9, hi2, hpm2, hCh9, hrow9, hor9, hIn9, hF9⟩ := hp9
    have hX := fX.tr (Nat.le_trans (Nat.le_of_eq hsz.symm) hzA) hX hX9
    have hFc : fF (inR [1, 13, 14, 15, 16, 17, 18, 19, 20, 21]) h1 h9 := hF9.mono (fun r9 o9 z => (by simp only [inR, inD, inXD, inRt, List.mem_cons, List.not_mem_nil, or_false] at z ⊢; omega : inR [1, 13, 14, 15, 16, 17, 18, 19, 20, 21] r9 o9))
    have hr := hr.keep hFc (by decide)
    obtain ⟨mf, rg, g_M, hTx, hRd, hEm, hFf, v_13, hS0, hSh, hRt⟩ := id hr
    have hKc := hK0.keepX hX
    have g_b := hKc.2.2.2
    have hS8 := hS.keepF hFc (nr_1 hr12 (by decide)) (nr_2 hr12 (by decide))
    have hwr9 : ∀ m9, m9 ≤ 3000 → (va_up wr mn 1 m9 = 1 ↔ ∃ i, i < nn2 ∧ pm2 i = m9) := fun m9 hm9 => wr_up hor9 hi2 hpm2 (hwr m9 hm9)
    have hc9 : cAll G h9 X tn tx ne ef rr rm nf la fl fk fd fw fv sL sR Ls th2 du2 (va_up wr mn 1) rn2 rl2 rD2 rM2 L9 := ⟨T, E, F, D, I, R, Wr, wa, _, _, mm, A, fa, gq, nn2, pr2, pm2, chs2, lt, rs, hv, d, r1, r2, o1, g_X9, ⟨hB.keepF hFc (by decide) (by decide), bmm⟩, hEd.keepF hFc (by decide), hcR.keepF hFc (by decide) (by decide) (by decide), hC.keepF hFc (by decide) (by decide) (by decide), ⟨hD.keepF hF9 (fun r9 q1 q2 q => by rcases q with q | q | q; all_goals first | omega | (have := q.2.2; omega)), hsh⟩, hIn9, ⟨hS8, hr12⟩, ⟨hCh9, rfl⟩, Or.inr ⟨i2, hi2, rfl, by rw [hpm2]; exact hrow9⟩, hwr9⟩
    have hp9 : pAll ef rr rm nf la fl fk fd th2 (va_up wr mn 1) L9 := ⟨hrep, hrm, bla, fun m9 l q1 q2 q3 => rt_mon hrs hmon bm m9 l q1 q2 q3, fun m9 l q1 q2 q3 => rt_z hrs hz0 bm m9 l q1 q2 q3⟩
    refine lv_aload_n hx hb d_LA_law_650 rfl (lv_at hl 2 rfl) ?_
    refine lv_aload_n hx hb d_LA_law_651 rfl (lv_at hl 0 rfl) ?_
    refine lv_iload_n hx hb d_LA_law_652 rfl (lv_at hl 3 rfl) ?_
    refine lv_iconst (v := 1) hx hb d_LA_law_653 (by decide) ?_
    refine lv_iadd hx hb d_LA_law_654 ?_
    refine f_asi (nI_add (9 * n) 1) ?_
    refine f_ialdn (k := ((9 * n) + 1)) (v := (nI mn)) hx hb hI g_b hfb (by omega) (by omega) hu1 d_LA_law_655 ?_
    have hzA := hI.2.2.2.1
    refine f_calli hI (f_runV C hI (c_MO_returned_ok l G h9 _ M mn mf g_M nf fl fk fd fw fv hFf ne ef rr rm hEm hS0 th du wr rn rl rD rM hRt la v_13 bla bm) gm_MO_returned w_1076 w_1077 w_1075 g_M rfl rfl rfl hl.1 rfl (Nat.le_of_ble_eq_true rfl) ⟨Nat.le_of_ble_eq_true rfl, Nat.le_of_ble_eq_true rfl⟩ d_LA_law_656 ⟨by show _ ≤ 600000; (try dsimp only); omega, by show _ ≤ 7302250; (try dsimp only); omega⟩) (fun r_5 h9 H9 locs hp9 hX9 hz9 hI => ?_)
    obtain ⟨th3, du3, rn3, rl3, rD3, rM3, hrs3, rfl, mf2, g_M, hm9, hS09, hRt9, hF9⟩ := hp9
    have hX := fX.tr (Nat.le_trans (Nat.le_of_eq hsz.symm) hzA) hX hX9
    have e9 := hrs.symm.trans hrs3
    cases e9
    have hr : rAll G h9 M tn tx ne ef rr rm nf la fl fk fd fw fv sL sR Ls th2 du2 (va_up wr mn 1) rn2 rl2 rD2 rM2 := ⟨mf2, rg, g_M, hTx.keep (fun j q1 q2 => hm9 j (by omega)) hF9 (by decide), hRd.keep (fun j q1 q2 => hm9 j (by omega)) hF9 (by decide), hEm.keep (fun j q1 q2 => hm9 j (by omega)) hF9 (by decide), hFf.keep (fun j q1 q2 => hm9 j (by omega)) hF9 (by decide), (hm9 13 (by omega)).trans v_13, hS09, hSh.keep (fun j q1 q2 => hm9 j (by omega)) hF9 (by decide), hRt9⟩
    have hc9 := hc9.keep hF9 (by decide)
    refine lv_icmp_eq (tgt := 859) hx hb d_LA_law_659 (by decide) (fun c_6 => ?_) (fun c_6 => absurd rfl c_6)
    refine K _ _ _ _ _ (by (try dsimp only); omega) (by (try dsimp only); omega) ⟨tn, tx, ne, ef, rr, rm, nf, la, fl, fk, fd, fw, fv, sL, sR, Ls, th2, du2, (va_up wr mn 1), rn2, rl2, rD2, rM2, L9, hr, hc9, hp9⟩ hX hI ls ?_
    exact lv_sub hl [0, 1, 2, 3] rfl
