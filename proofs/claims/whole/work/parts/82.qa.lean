set_option maxHeartbeats 8000000 in
set_option maxRecDepth 100000 in
/-- the law: unit -/
theorem q_unit {p : Program} {e : Env} {s : State} {m : MethodId} {below : List Frame} {meth : Method} {c : Code} (l : Launch) (G : gG) (h : fH) (b L X M n : Nat) (xs : Nat → Int32) (cS : ClassId) (C : gC G p s m #[Value.ref b] meth c (fA h s.heap.size) code 4 "DutyRulesLaw" meth.name) (hfb : fT s cS .int) (hK0 : cst G h b cS L xs) (bL : L ≤ 4608) (hn : 9 * n + 9 ≤ L)
    (K : ∀ (h2 : fH) (H : Heap) (locs : List Loc) (cs ss : Nat), cs ≤ 50 + 320 * (n + 1) → ss ≤ 190000 + 11800 * (n + 1) → LI G h2 X M → fX h s.heap.size h2 → fI G.1 g_cl (fA h s.heap.size) s.heap h2 H locs → ∀ ls : Array Slot, lv_has ls 4 [(0, .ref b), (1, .ref X), (2, .ref M), (3, .int (nI (9 * n)))] → W p l e room_1 s m #[Value.ref b] below meth c H locs cs ss (lw_Z below #[Value.ref b] s) (F0 m 859 ls []))
    : ∀ (h1 : fH) (H : Heap) (locs : List Loc) (cs ss : Nat), cs ≤ 50 + 320 * n → ss ≤ 190000 + 11800 * n → LI G h1 X M → fX h s.heap.size h1 → fI G.1 g_cl (fA h s.heap.size) s.heap h1 H locs → ∀ ls : Array Slot, lv_has ls 4 [(0, .ref b), (1, .ref X), (2, .ref M), (3, .int (nI (9 * n)))] → W p l e room_1 s m #[Value.ref b] below meth c H locs cs ss (lw_Z below #[Value.ref b] s) (F0 m 104 ls []) := by
  intro h1 H locs cs ss hcs hss hLI hX hI ls hl
  obtain ⟨hx, hb, hml, hown, hnm, hlk, hT, hG, hZ⟩ := id C
  have hK := hG.1
  have hsz : s.heap.size = s.heap.size := rfl
  obtain ⟨tn, tx, ne, ef, rr, rm, nf, la, fl, fk, fd, fw, fv, sL, sR, Ls, th, du, wr, rn, rl, rD, rM, L9, hr, hc, hp⟩ := hLI
  obtain ⟨mf, rg, g_M, hTx, hRd, hEm, hFf, v_13, hS0, hSh, hRt⟩ := id hr
  obtain ⟨T, E, F, D, I, R, Wr, wa, nr, lr, mm, A, fa, gq, nn, pr, pm, chs, lt, rs, hv, d, r1, r2, o1, g_X, ⟨hB, bmm⟩, hEd, hcR, hC, ⟨hD, hsh⟩, hIn, ⟨hS, hr12⟩, ⟨hCh, hnr⟩, hlr, hwr⟩ := id hc
  obtain ⟨hrep, hrm, bla, hmon, hz0⟩ := id hp
  have hKc := hK0.keepX hX
  have g_b := hKc.2.2.2
  have hn5 : n ≤ 511 := by omega
  have hoks := ed_ok hEm
  have hbd := rk_all hEm hFf
  obtain ⟨u1, hu1⟩ : ∃ z, xs (9 * n + 1) = z := ⟨_, rfl⟩
  by_cases hbad : u1 < 1 ∨ 127 < u1 ∨ tn = 2000
  · have btn : tn ≤ 2000 := by obtain ⟨_, _, _, q, _⟩ := id hTx; exact q
    skip
    refine lv_aload_n hx hb d_LA_law_104 rfl (lv_at hl 1 rfl) ?_
    refine lv_aload_n hx hb d_LA_law_105 rfl (lv_at hl 0 rfl) ?_
    refine lv_iload_n hx hb d_LA_law_106 rfl (lv_at hl 3 rfl) ?_
    refine lv_iconst (v := 1) hx hb d_LA_law_107 (by decide) ?_
    refine lv_iadd hx hb d_LA_law_108 ?_
    refine f_asi (nI_add (9 * n) 1) ?_
    refine f_ialdn (k := ((9 * n) + 1)) (v := u1) hx hb hI g_b hfb (by omega) (by omega) hu1 d_LA_law_109 ?_
    refine f_calli hI (f_runV C hI (c_DR_unit_no l G h1 _ X T E F D I R Wr wa nr lr g_X u1 mm tn tx hB btn bmm hbad) gm_DR_unit w_195 w_196 w_194 g_X rfl rfl rfl hl.1 rfl (Nat.le_of_ble_eq_true rfl) ⟨Nat.le_of_ble_eq_true rfl, Nat.le_of_ble_eq_true rfl⟩ d_LA_law_110 ⟨by show _ ≤ 600000; (try dsimp only); omega, by show _ ≤ 7302250; (try dsimp only); omega⟩) (fun r_1 h8 H9 locs hp9 hX9 hz9 hI => ?_)
    obtain ⟨rfl, e9⟩ := hp9
    rw [e9] at hI
    clear hX9 e9
    refine lv_aload_n hx hb d_LA_law_113 rfl (lv_at hl 2 rfl) ?_
    refine lv_aload_n hx hb d_LA_law_114 rfl (lv_at hl 0 rfl) ?_
    refine lv_iload_n hx hb d_LA_law_115 rfl (lv_at hl 3 rfl) ?_
    refine lv_iconst (v := 1) hx hb d_LA_law_116 (by decide) ?_
    refine lv_iadd hx hb d_LA_law_117 ?_
    refine f_asi (nI_add (9 * n) 1) ?_
    refine f_ialdn (k := ((9 * n) + 1)) (v := u1) hx hb hI g_b hfb (by omega) (by omega) hu1 d_LA_law_118 ?_
    refine f_calli hI (f_runV C hI (c_MO_unit_no l G h1 _ M u1 mf g_M tn tx hTx hbad) gm_MO_unit w_931 w_932 w_930 g_M rfl rfl rfl hl.1 rfl (Nat.le_of_ble_eq_true rfl) ⟨Nat.le_of_ble_eq_true rfl, Nat.le_of_ble_eq_true rfl⟩ d_LA_law_119 ⟨by show _ ≤ 600000; (try dsimp only); omega, by show _ ≤ 7302250; (try dsimp only); omega⟩) (fun r_2 h8 H9 locs hp9 hX9 hz9 hI => ?_)
    obtain ⟨rfl, e9⟩ := hp9
    rw [e9] at hI
    clear hX9 e9
    refine lv_icmp_eq (tgt := 859) hx hb d_LA_law_122 (by decide) (fun c_3 => ?_) (fun c_3 => absurd (by decide) c_3)
    refine K _ _ _ _ _ (by (try dsimp only); omega) (by (try dsimp only); omega) ⟨tn, tx, ne, ef, rr, rm, nf, la, fl, fk, fd, fw, fv, sL, sR, Ls, th, du, wr, rn, rl, rD, rM, L9, hr, hc, hp⟩ hX hI ls ?_
    exact lv_sub hl [0, 1, 2, 3] rfl
  · have btn : tn ≤ 2000 := by obtain ⟨_, _, _, q, _⟩ := id hTx; exact q
    obtain ⟨U, hU, rfl⟩ : ∃ U, U < 2 ^ 31 ∧ u1 = nI U := by obtain ⟨U, q1, q2⟩ := nI_of (x := u1) (fun q => hbad (Or.inl (lt_01 q))); exact ⟨U, q1, q2⟩
    have bU1 : 1 ≤ U := Nat.le_of_not_lt (fun q => hbad (Or.inl ((n_lt (a := U) (b := 1) hU (by decide)).mpr q)))
    have bU2 : U ≤ 127 := Nat.le_of_not_lt (fun q => hbad (Or.inr (Or.inl ((n_lt (a := 127) (b := U) (by decide) hU).mpr q))))
    have btn2 : tn < 2000 := Nat.lt_of_le_of_ne btn (fun q => hbad (Or.inr (Or.inr q)))
    refine lv_aload_n hx hb d_LA_law_104 rfl (lv_at hl 1 rfl) ?_
    refine lv_aload_n hx hb d_LA_law_105 rfl (lv_at hl 0 rfl) ?_
    refine lv_iload_n hx hb d_LA_law_106 rfl (lv_at hl 3 rfl) ?_
    refine lv_iconst (v := 1) hx hb d_LA_law_107 (by decide) ?_
    refine lv_iadd hx hb d_LA_law_108 ?_
    refine f_asi (nI_add (9 * n) 1) ?_
    refine f_ialdn (k := ((9 * n) + 1)) (v := (nI U)) hx hb hI g_b hfb (by omega) (by omega) hu1 d_LA_law_109 ?_
    have hzA := hI.2.2.2.1
    refine f_calli hI (f_runV C hI (c_DR_unit_ok l G h1 _ X T E F D I R Wr wa nr lr g_X U mm tn tx hB btn bmm bU1 bU2 btn2) gm_DR_unit w_195 w_196 w_194 g_X rfl rfl rfl hl.1 rfl (Nat.le_of_ble_eq_true rfl) ⟨Nat.le_of_ble_eq_true rfl, Nat.le_of_ble_eq_true rfl⟩ d_LA_law_110 ⟨by show _ ≤ 600000; (try dsimp only); omega, by show _ ≤ 7302250; (try dsimp only); omega⟩) (fun r_4 h9 H9 locs hp9 hX9 hz9 hI => ?_)
    obtain ⟨rfl, hB9, hF9⟩ := hp9
    have hX := fX.tr (Nat.le_trans (Nat.le_of_eq hsz.symm) hzA) hX hX9
    have hFc : fF (inR [2, 3]) h1 h9 := hF9.mono (fun r9 o9 z => (by simp only [inR, inD, inXD, inRt, List.mem_cons, List.not_mem_nil, or_false] at z ⊢; omega : inR [2, 3] r9 o9))
    have hr := hr.keep hFc (by decide)
    obtain ⟨mf, rg, g_M, hTx, hRd, hEm, hFf, v_13, hS0, hSh, hRt⟩ := id hr
    have hKc := hK0.keepX hX
    have g_b := hKc.2.2.2
    have hS8 := hS.keepF hFc (nr_1 hr12 (by decide)) (nr_2 hr12 (by decide))
    have hc9 : cAll G h9 X (tn + 1) (va_up tx tn U) ne ef rr rm nf la fl fk fd fw fv sL sR Ls th du wr rn rl rD rM L9 := ⟨T, E, F, D, I, R, Wr, wa, nr, lr, gw mm (tn + 1), A, fa, gq, nn, pr, pm, chs, lt, rs, hv, d, r1, r2, o1, hFc _ _ _ _ g_X (by decide), ⟨hB9, by have q1 := gw_b (mm := mm) (q := tn + 1) (by obtain ⟨_, _, _, _, _, _, _, z, z2, _⟩ := id hB; omega); have q2 := gcs_b mm (tn + 1); omega⟩, hEd.keepF hFc (by decide), hcR.keepF hFc (by decide) (by decide) (by decide), hC.keepF hFc (by decide) (by decide) (by decide), ⟨hD.keepF hFc (fun r9 q1 q2 q => by simp only [inR, List.mem_cons, List.not_mem_nil, or_false] at q; omega), hsh⟩, hIn.keepG hFc (fun r9 q1 q2 q => by simp only [inR, List.mem_cons, List.not_mem_nil, or_false] at q; omega), ⟨hS8, hr12⟩, ⟨hCh.keepF hFc (fun r9 o9 q1 q2 q => by simp only [inR, List.mem_cons, List.not_mem_nil, or_false] at q; omega), hnr⟩, hlr, hwr⟩
    refine lv_aload_n hx hb d_LA_law_113 rfl (lv_at hl 2 rfl) ?_
    refine lv_aload_n hx hb d_LA_law_114 rfl (lv_at hl 0 rfl) ?_
    refine lv_iload_n hx hb d_LA_law_115 rfl (lv_at hl 3 rfl) ?_
    refine lv_iconst (v := 1) hx hb d_LA_law_116 (by decide) ?_
    refine lv_iadd hx hb d_LA_law_117 ?_
    refine f_asi (nI_add (9 * n) 1) ?_
    refine f_ialdn (k := ((9 * n) + 1)) (v := (nI U)) hx hb hI g_b hfb (by omega) (by omega) hu1 d_LA_law_118 ?_
    have hzA := hI.2.2.2.1
    refine f_calli hI (f_runV C hI (c_MO_unit l G h9 _ M U mf g_M tn tx hTx bU1 bU2 btn2) gm_MO_unit w_931 w_932 w_930 g_M rfl rfl rfl hl.1 rfl (Nat.le_of_ble_eq_true rfl) ⟨Nat.le_of_ble_eq_true rfl, Nat.le_of_ble_eq_true rfl⟩ d_LA_law_119 ⟨by show _ ≤ 600000; (try dsimp only); omega, by show _ ≤ 7302250; (try dsimp only); omega⟩) (fun r_5 h9 H9 locs hp9 hX9 hz9 hI => ?_)
    obtain ⟨rfl, mf2, g_M, hm9, hTx9, hF9⟩ := hp9
    have hX := fX.tr (Nat.le_trans (Nat.le_of_eq hsz.symm) hzA) hX hX9
    have hr : rAll G h9 M (tn + 1) (va_up tx tn U) ne ef rr rm nf la fl fk fd fw fv sL sR Ls th du wr rn rl rD rM := ⟨mf2, rg, g_M, hTx9, hRd.keep (fun j q1 q2 => hm9 j (by omega)) hF9 (by decide), hEm.keep (fun j q1 q2 => hm9 j (by omega)) hF9 (by decide), hFf.keep (fun j q1 q2 => hm9 j (by omega)) hF9 (by decide), (hm9 13 (by omega)).trans v_13, hS0.keep (fun j q1 q2 => hm9 j (by omega)) hF9 (by decide), hSh.keep (fun j q1 q2 => hm9 j (by omega)) hF9 (by decide), hRt.keep (fun j q1 q2 => hm9 j (by omega)) hF9 (by decide)⟩
    have hc9 := hc9.keep hF9 (by decide)
    refine lv_icmp_eq (tgt := 859) hx hb d_LA_law_122 (by decide) (fun c_6 => ?_) (fun c_6 => absurd (by decide) c_6)
    refine K _ _ _ _ _ (by (try dsimp only); omega) (by (try dsimp only); omega) ⟨(tn + 1), (va_up tx tn U), ne, ef, rr, rm, nf, la, fl, fk, fd, fw, fv, sL, sR, Ls, th, du, wr, rn, rl, rD, rM, L9, hr, hc9, hp⟩ hX hI ls ?_
    exact lv_sub hl [0, 1, 2, 3] rfl
set_option maxHeartbeats 8000000 in
set_option maxRecDepth 100000 in
/-- the law: open -/
theorem q_open {p : Program} {e : Env} {s : State} {m : MethodId} {below : List Frame} {meth : Method} {c : Code} (l : Launch) (G : gG) (h : fH) (b L X M n : Nat) (xs : Nat → Int32) (cS : ClassId) (C : gC G p s m #[Value.ref b] meth c (fA h s.heap.size) code 4 "DutyRulesLaw" meth.name) (hfb : fT s cS .int) (hK0 : cst G h b cS L xs) (bL : L ≤ 4608) (hn : 9 * n + 9 ≤ L)
    (K : ∀ (h2 : fH) (H : Heap) (locs : List Loc) (cs ss : Nat), cs ≤ 50 + 320 * (n + 1) → ss ≤ 190000 + 11800 * (n + 1) → LI G h2 X M → fX h s.heap.size h2 → fI G.1 g_cl (fA h s.heap.size) s.heap h2 H locs → ∀ ls : Array Slot, lv_has ls 4 [(0, .ref b), (1, .ref X), (2, .ref M), (3, .int (nI (9 * n)))] → W p l e room_1 s m #[Value.ref b] below meth c H locs cs ss (lw_Z below #[Value.ref b] s) (F0 m 859 ls []))
    : ∀ (h1 : fH) (H : Heap) (locs : List Loc) (cs ss : Nat), cs ≤ 50 + 320 * n → ss ≤ 190000 + 11800 * n → LI G h1 X M → fX h s.heap.size h1 → fI G.1 g_cl (fA h s.heap.size) s.heap h1 H locs → ∀ ls : Array Slot, lv_has ls 4 [(0, .ref b), (1, .ref X), (2, .ref M), (3, .int (nI (9 * n)))] → W p l e room_1 s m #[Value.ref b] below meth c H locs cs ss (lw_Z below #[Value.ref b] s) (F0 m 541 ls []) := by
  intro h1 H locs cs ss hcs hss hLI hX hI ls hl
  obtain ⟨hx, hb, hml, hown, hnm, hlk, hT, hG, hZ⟩ := id C
  have hK := hG.1
  have hsz : s.heap.size = s.heap.size := rfl
  obtain ⟨tn, tx, ne, ef, rr, rm, nf, la, fl, fk, fd, fw, fv, sL, sR, Ls, th, du, wr, rn, rl, rD, rM, L9, hr, hc, hp⟩ := hLI
  obtain ⟨mf, rg, g_M, hTx, hRd, hEm, hFf, v_13, hS0, hSh, hRt⟩ := id hr
  obtain ⟨T, E, F, D, I, R, Wr, wa, nr, lr, mm, A, fa, gq, nn, pr, pm, chs, lt, rs, hv, d, r1, r2, o1, g_X, ⟨hB, bmm⟩, hEd, hcR, hC, ⟨hD, hsh⟩, hIn, ⟨hS, hr12⟩, ⟨hCh, hnr⟩, hlr, hwr⟩ := id hc
  obtain ⟨hrep, hrm, bla, hmon, hz0⟩ := id hp
  have hKc := hK0.keepX hX
  have g_b := hKc.2.2.2
  have hn5 : n ≤ 511 := by omega
  have hoks := ed_ok hEm
  have hbd := rk_all hEm hFf
  obtain ⟨u1, hu1⟩ : ∃ z, xs (9 * n + 1) = z := ⟨_, rfl⟩
  have eO : (if wa = 0 then (-1 : Int32) else (if u1 = 0 then lt else (if u1 = 1 then rs else (if u1 = 2 then nI d.1.length else -1)))) = (if sL = -1 then -1 else (if u1 = 0 then sL else (if u1 = 1 then sR else (if u1 = 2 then nI Ls.length else -1)))) := by
    rcases hsh.1 with ⟨q1, q2, _⟩ | ⟨q1, q2, q3, q4, q5⟩
    · rw [if_pos q1, if_pos q2]
    · rw [if_neg (show ¬ wa = 0 by rw [q1]; decide), if_neg q2, q3, q4, q5]
  refine lv_aload_n hx hb d_LA_law_541 rfl (lv_at hl 1 rfl) ?_
  refine lv_aload_n hx hb d_LA_law_542 rfl (lv_at hl 0 rfl) ?_
  refine lv_iload_n hx hb d_LA_law_543 rfl (lv_at hl 3 rfl) ?_
  refine lv_iconst (v := 1) hx hb d_LA_law_544 (by decide) ?_
  refine lv_iadd hx hb d_LA_law_545 ?_
  refine f_asi (nI_add (9 * n) 1) ?_
  refine f_ialdn (k := ((9 * n) + 1)) (v := u1) hx hb hI g_b hfb (by omega) (by omega) hu1 d_LA_law_546 ?_
  refine f_calli hI (f_runV C hI (c_DR_open l G h1 _ X T E F D I R Wr wa nr lr g_X u1 lt rs hv d hD) gm_DR_open w_687 w_688 w_686 g_X rfl rfl rfl hl.1 rfl (Nat.le_of_ble_eq_true rfl) ⟨Nat.le_of_ble_eq_true rfl, Nat.le_of_ble_eq_true rfl⟩ d_LA_law_547 ⟨by show _ ≤ 600000; (try dsimp only); omega, by show _ ≤ 7302250; (try dsimp only); omega⟩) (fun r_1 h8 H9 locs hp9 hX9 hz9 hI => ?_)
  obtain ⟨rfl, e9⟩ := hp9
  rw [e9] at hI
  clear hX9 e9
  refine f_asi eO ?_
  refine lv_aload_n hx hb d_LA_law_550 rfl (lv_at hl 2 rfl) ?_
  refine lv_aload_n hx hb d_LA_law_551 rfl (lv_at hl 0 rfl) ?_
  refine lv_iload_n hx hb d_LA_law_552 rfl (lv_at hl 3 rfl) ?_
  refine lv_iconst (v := 1) hx hb d_LA_law_553 (by decide) ?_
  refine lv_iadd hx hb d_LA_law_554 ?_
  refine f_asi (nI_add (9 * n) 1) ?_
  refine f_ialdn (k := ((9 * n) + 1)) (v := u1) hx hb hI g_b hfb (by omega) (by omega) hu1 d_LA_law_555 ?_
  refine f_calli hI (f_runV C hI (c_MO_open l G h1 _ M u1 mf g_M sL sR Ls hSh) gm_MO_open w_1054 w_1055 w_1053 g_M rfl rfl rfl hl.1 rfl (Nat.le_of_ble_eq_true rfl) ⟨Nat.le_of_ble_eq_true rfl, Nat.le_of_ble_eq_true rfl⟩ d_LA_law_556 ⟨by show _ ≤ 600000; (try dsimp only); omega, by show _ ≤ 7302250; (try dsimp only); omega⟩) (fun r_2 h8 H9 locs hp9 hX9 hz9 hI => ?_)
  obtain ⟨rfl, e9⟩ := hp9
  rw [e9] at hI
  clear hX9 e9
  refine lv_icmp_eq (tgt := 859) hx hb d_LA_law_559 (by decide) (fun c_3 => ?_) (fun c_3 => absurd rfl c_3)
  refine K _ _ _ _ _ (by (try dsimp only); omega) (by (try dsimp only); omega) ⟨tn, tx, ne, ef, rr, rm, nf, la, fl, fk, fd, fw, fv, sL, sR, Ls, th, du, wr, rn, rl, rD, rM, L9, hr, hc, hp⟩ hX hI ls ?_
  exact lv_sub hl [0, 1, 2, 3] rfl
set_option maxHeartbeats 8000000 in
set_option maxRecDepth 100000 in
/-- the law: write -/
theorem q_write {p : Program} {e : Env} {s : State} {m : MethodId} {below : List Frame} {meth : Method} {c : Code} (l : Launch) (G : gG) (h : fH) (b L X M n : Nat) (xs : Nat → Int32) (cS : ClassId) (C : gC G p s m #[Value.ref b] meth c (fA h s.heap.size) code 4 "DutyRulesLaw" meth.name) (hfb : fT s cS .int) (hK0 : cst G h b cS L xs) (bL : L ≤ 4608) (hn : 9 * n + 9 ≤ L)
    (K : ∀ (h2 : fH) (H : Heap) (locs : List Loc) (cs ss : Nat), cs ≤ 50 + 320 * (n + 1) → ss ≤ 190000 + 11800 * (n + 1) → LI G h2 X M → fX h s.heap.size h2 → fI G.1 g_cl (fA h s.heap.size) s.heap h2 H locs → ∀ ls : Array Slot, lv_has ls 4 [(0, .ref b), (1, .ref X), (2, .ref M), (3, .int (nI (9 * n)))] → W p l e room_1 s m #[Value.ref b] below meth c H locs cs ss (lw_Z below #[Value.ref b] s) (F0 m 859 ls []))
    : ∀ (h1 : fH) (H : Heap) (locs : List Loc) (cs ss : Nat), cs ≤ 50 + 320 * n → ss ≤ 190000 + 11800 * n → LI G h1 X M → fX h s.heap.size h1 → fI G.1 g_cl (fA h s.heap.size) s.heap h1 H locs → ∀ ls : Array Slot, lv_has ls 4 [(0, .ref b), (1, .ref X), (2, .ref M), (3, .int (nI (9 * n)))] → W p l e room_1 s m #[Value.ref b] below meth c H locs cs ss (lw_Z below #[Value.ref b] s) (F0 m 762 ls []) := by
  intro h1 H locs cs ss hcs hss hLI hX hI ls hl
  obtain ⟨hx, hb, hml, hown, hnm, hlk, hT, hG, hZ⟩ := id C
  have hK := hG.1
  have hsz : s.heap.size = s.heap.size := rfl
  obtain ⟨tn, tx, ne, ef, rr, rm, nf, la, fl, fk, fd, fw, fv, sL, sR, Ls, th, du, wr, rn, rl, rD, rM, L9, hr, hc, hp⟩ := hLI
  obtain ⟨mf, rg, g_M, hTx, hRd, hEm, hFf, v_13, hS0, hSh, hRt⟩ := id hr
  obtain ⟨T, E, F, D, I, R, Wr, wa, nr, lr, mm, A, fa, gq, nn, pr, pm, chs, lt, rs, hv, d, r1, r2, o1, g_X, ⟨hB, bmm⟩, hEd, hcR, hC, ⟨hD, hsh⟩, hIn, ⟨hS, hr12⟩, ⟨hCh, hnr⟩, hlr, hwr⟩ := id hc
  obtain ⟨hrep, hrm, bla, hmon, hz0⟩ := id hp
  have hKc := hK0.keepX hX
  have g_b := hKc.2.2.2
  have hn5 : n ≤ 511 := by omega
  have hoks := ed_ok hEm
  have hbd := rk_all hEm hFf
  obtain ⟨u1, hu1⟩ : ∃ z, xs (9 * n + 1) = z := ⟨_, rfl⟩
  refine lv_aload_n hx hb d_LA_law_762 rfl (lv_at hl 1 rfl) ?_
  refine lv_aload_n hx hb d_LA_law_763 rfl (lv_at hl 0 rfl) ?_
  refine lv_iload_n hx hb d_LA_law_764 rfl (lv_at hl 3 rfl) ?_
  refine lv_iconst (v := 1) hx hb d_LA_law_765 (by decide) ?_
  refine lv_iadd hx hb d_LA_law_766 ?_
  refine f_asi (nI_add (9 * n) 1) ?_
  refine f_ialdn (k := ((9 * n) + 1)) (v := u1) hx hb hI g_b hfb (by omega) (by omega) hu1 d_LA_law_767 ?_
  refine f_calli hI (f_runV C hI (c_DR_write l G h1 _ X T E F D I R Wr wa nr lr g_X u1 r1 r2 o1 (ot L9) hS) gm_DR_write w_779 w_780 w_778 g_X rfl rfl rfl hl.1 rfl (Nat.le_of_ble_eq_true rfl) ⟨Nat.le_of_ble_eq_true rfl, Nat.le_of_ble_eq_true rfl⟩ d_LA_law_768 ⟨by show _ ≤ 600000; (try dsimp only); omega, by show _ ≤ 7302250; (try dsimp only); omega⟩) (fun r_1 h8 H9 locs hp9 hX9 hz9 hI => ?_)
  obtain ⟨rfl, e9⟩ := hp9
  rw [e9] at hI
  clear hX9 e9
  refine lv_aload_n hx hb d_LA_law_771 rfl (lv_at hl 2 rfl) ?_
  refine lv_aload_n hx hb d_LA_law_772 rfl (lv_at hl 0 rfl) ?_
  refine lv_iload_n hx hb d_LA_law_773 rfl (lv_at hl 3 rfl) ?_
  refine lv_iconst (v := 1) hx hb d_LA_law_774 (by decide) ?_
  refine lv_iadd hx hb d_LA_law_775 ?_
  refine f_asi (nI_add (9 * n) 1) ?_
  refine f_ialdn (k := ((9 * n) + 1)) (v := u1) hx hb hI g_b hfb (by omega) (by omega) hu1 d_LA_law_776 ?_
  have hzA := hI.2.2.2.1
  refine f_calli hI (f_runV C hI (c_MO_write l G h1 _ M u1 L9 mf g_M ne ef rr rm hEm hKc.2.2.1 hrep hrm) gm_MO_write w_976 w_977 w_975 g_M rfl rfl rfl hl.1 rfl (Nat.le_of_ble_eq_true rfl) ⟨Nat.le_of_ble_eq_true rfl, Nat.le_of_ble_eq_true rfl⟩ d_LA_law_777 ⟨by show _ ≤ 600000; (try dsimp only); omega, by show _ ≤ 7302250; (try dsimp only); omega⟩) (fun r_2 h9 H9 locs hp9 hX9 hz9 hI => ?_)
  obtain ⟨rfl, mf2, g_M, hm9, hF9⟩ := hp9
  have hX := fX.tr (Nat.le_trans (Nat.le_of_eq hsz.symm) hzA) hX hX9
  have hr : rAll G h9 M tn tx ne ef rr rm nf la fl fk fd fw fv sL sR Ls th du wr rn rl rD rM := ⟨mf2, rg, g_M, hTx.keep (fun j q1 q2 => hm9 j (by omega)) hF9 (by decide), hRd.keep (fun j q1 q2 => hm9 j (by omega)) hF9 (by decide), hEm.keep (fun j q1 q2 => hm9 j (by omega)) hF9 (by decide), hFf.keep (fun j q1 q2 => hm9 j (by omega)) hF9 (by decide), (hm9 13 (by omega)).trans v_13, hS0.keep (fun j q1 q2 => hm9 j (by omega)) hF9 (by decide), hSh.keep (fun j q1 q2 => hm9 j (by omega)) hF9 (by decide), hRt.keep (fun j q1 q2 => hm9 j (by omega)) hF9 (by decide)⟩
  have hc9 := hc.keep hF9 (by decide)
  refine lv_icmp_eq (tgt := 859) hx hb d_LA_law_780 (by decide) (fun c_3 => ?_) (fun c_3 => absurd rfl c_3)
  refine K _ _ _ _ _ (by (try dsimp only); omega) (by (try dsimp only); omega) ⟨tn, tx, ne, ef, rr, rm, nf, la, fl, fk, fd, fw, fv, sL, sR, Ls, th, du, wr, rn, rl, rD, rM, L9, hr, hc9, hp⟩ hX hI ls ?_
  exact lv_sub hl [0, 1, 2, 3] rfl
