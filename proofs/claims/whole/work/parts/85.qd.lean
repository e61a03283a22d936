set_option maxHeartbeats 8000000 in
set_option maxRecDepth 100000 in
/-- the law: read -/
theorem q_read {p : Program} {e : Env} {s : State} {m : MethodId} {below : List Frame} {meth : Method} {c : Code} (l : Launch) (G : gG) (h : fH) (b L X M n : Nat) (xs : Nat → Int32) (cS : ClassId) (C : gC G p s m #[Value.ref b] meth c (fA h s.heap.size) code 4 "DutyRulesLaw" meth.name) (hfb : fT s cS .int) (hK0 : cst G h b cS L xs) (bL : L ≤ 4608) (hn : 9 * n + 9 ≤ L)
    (K : ∀ (h2 : fH) (H : Heap) (locs : List Loc) (cs ss : Nat), cs ≤ 50 + 320 * (n + 1) → ss ≤ 190000 + 11800 * (n + 1) → LI G h2 X M → fX h s.heap.size h2 → fI G.1 g_cl (fA h s.heap.size) s.heap h2 H locs → ∀ ls : Array Slot, lv_has ls 4 [(0, .ref b), (1, .ref X), (2, .ref M), (3, .int (nI (9 * n)))] → W p l e room_1 s m #[Value.ref b] below meth c H locs cs ss (lw_Z below #[Value.ref b] s) (F0 m 859 ls []))
    : ∀ (h1 : fH) (H : Heap) (locs : List Loc) (cs ss : Nat), cs ≤ 50 + 320 * n → ss ≤ 190000 + 11800 * n → LI G h1 X M → fX h s.heap.size h1 → fI G.1 g_cl (fA h s.heap.size) s.heap h1 H locs → ∀ ls : Array Slot, lv_has ls 4 [(0, .ref b), (1, .ref X), (2, .ref M), (3, .int (nI (9 * n)))] → W p l e room_1 s m #[Value.ref b] below meth c H locs cs ss (lw_Z below #[Value.ref b] s) (F0 m 127 ls []) := by
  intro h1 H locs cs ss hcs hss hLI hX hI ls hl
  obtain ⟨hx, hb, hml, hown, hnm, hlk, hT, hG, hZ⟩ := id C
  have hK := hG.1
  have hsz : s.heap.size = s.heap.size := rfl
  obtain ⟨tn, tx, ne, ef, rr, rm, nf, la, fl, fk, fd, fw, fv, sL, sR, Ls, th, du, wr, rn, rl, rD, rM, L9, hr, hc, hp⟩ := hLI
  obtain ⟨mf, rg, g_M, hTx, hRd, hEm, hFf, v_13, hS0, hSh, hRt⟩ := id hr
  obtain ⟨T, E, F, D, I, R, Wr, wa, nr, lr, mm, A, fa, gq, nn, pr, pm, chs, lt, rs, hv, d, r1, r2, o1, g_X, ⟨hB, bmm⟩, hEd, hcR, hC, ⟨hD, hsh⟩, hIn, ⟨hS, hr12⟩, ⟨hCh, hnr⟩, hlr, hwr⟩ := id hc
  obtain ⟨hrep, hrm, bla, hmon, hz0⟩ := id hp
  have hKc := hK0.keepX hX
  have g_b := hKc.2.2.2
  have hn5 : n ≤ 511 := by omega
  have hoks := ed_ok hEm
  have hbd := rk_all hEm hFf
  have btn : tn ≤ 2000 := by obtain ⟨_, _, _, q, _⟩ := id hTx; exact q
  rcases hq : rd tx tn with ⟨ok, w2, L2⟩
  refine lv_aload_n hx hb d_LA_law_127 rfl (lv_at hl 1 rfl) ?_
  have hzA := hI.2.2.2.1
  refine f_calli hI (f_runV C hI (c_DR_read l G h1 _ X T E F D I R Wr wa nr lr g_X mm tn tx hB btn bmm hKc.1 hKc.2.1) gm_DR_read w_301 w_302 w_300 g_X rfl rfl rfl hl.1 rfl (Nat.le_of_ble_eq_true rfl) ⟨Nat.le_of_ble_eq_true rfl, Nat.le_of_ble_eq_true rfl⟩ d_LA_law_128 ⟨by show _ ≤ 600000; (try dsimp only); omega, by show _ ≤ 7302250; (try dsimp only); omega⟩) (fun r_1 h9 H9 locs hp9 hX9 hz9 hI => ?_)
  obtain ⟨hB9, hor⟩ := hp9
  have hX := fX.tr (Nat.le_trans (Nat.le_of_eq hsz.symm) hzA) hX hX9
  rw [hq] at hor
  have hKc := hK0.keepX hX
  have g_b := hKc.2.2.2
  rcases hor with ⟨ok1, rfl, g_X9, hFc⟩ | ⟨ok1, rfl, hFc, R9, W9, kf2, nf2, g_X9, hU9, h49, hS9⟩
  · have hr := hr.keep hFc (by decide)
    obtain ⟨mf, rg, g_M, hTx, hRd, hEm, hFf, v_13, hS0, hSh, hRt⟩ := id hr
    have hc9 : cAll G h9 X 0 tx ne ef rr rm nf la fl fk fd fw fv sL sR Ls th du wr rn rl rD rM L9 := ⟨T, E, F, D, I, R, Wr, wa, nr, lr, mm, A, fa, gq, nn, pr, pm, chs, lt, rs, hv, d, r1, r2, o1, g_X9, ⟨hB9, bmm⟩, hEd.keepF hFc (by decide), hcR.keepF hFc (by decide) (by decide) (by decide), hC.keepF hFc (by decide) (by decide) (by decide), ⟨hD.keepF hFc (fun r9 q1 q2 q => by simp only [inR, List.mem_cons, List.not_mem_nil, or_false] at q; omega), hsh⟩, hIn.keepG hFc (fun r9 q1 q2 q => by simp only [inR, List.mem_cons, List.not_mem_nil, or_false] at q; omega), ⟨hS.keepF hFc (by simp only [inR, List.mem_cons, List.not_mem_nil, or_false]; omega) (by simp only [inR, List.mem_cons, List.not_mem_nil, or_false]; omega), hr12⟩, ⟨hCh.keepF hFc (fun r9 o9 q1 q2 q => by simp only [inR, List.mem_cons, List.not_mem_nil, or_false] at q; omega), hnr⟩, hlr, hwr⟩
    refine lv_aload_n hx hb d_LA_law_131 rfl (lv_at hl 2 rfl) ?_
    have hzA := hI.2.2.2.1
    refine f_calli hI (f_runV C hI (c_MO_read l G h9 _ M rg mf g_M tn tx hTx ne ef rr rm hEm hRd hKc.2.2.1) gm_MO_read w_935 w_936 w_934 g_M rfl rfl rfl hl.1 rfl (Nat.le_of_ble_eq_true rfl) ⟨Nat.le_of_ble_eq_true rfl, Nat.le_of_ble_eq_true rfl⟩ d_LA_law_132 ⟨by show _ ≤ 600000; (try dsimp only); omega, by show _ ≤ 7302250; (try dsimp only); omega⟩) (fun r_2 h9 H9 locs hp9 hX9 hz9 hI => ?_)
    obtain ⟨rg2, mf2, g_M, hm9, hTx9, hRd9, hF9, hor2⟩ := hp9
    have hX := fX.tr (Nat.le_trans (Nat.le_of_eq hsz.symm) hzA) hX hX9
    rw [hq] at hor2
    rcases hor2 with ⟨ok2, rfl, hEm9⟩ | ⟨ok2, _⟩
    · have hr : rAll G h9 M 0 tx ne ef rr rm nf la fl fk fd fw fv sL sR Ls th du wr rn rl rD rM := ⟨mf2, rg2, g_M, hTx9, hRd9, hEm9, hFf.keep (fun j q1 q2 => hm9 j (by omega)) hF9 (by decide), (hm9 13 (by omega)).trans v_13, hS0.keep (fun j q1 q2 => hm9 j (by omega)) hF9 (by decide), hSh.keep (fun j q1 q2 => hm9 j (by omega)) hF9 (by decide), hRt.keep (fun j q1 q2 => hm9 j (by omega)) hF9 (by decide)⟩
      have hc9 := hc9.keep hF9 (by decide)
      refine lv_icmp_eq (tgt := 859) hx hb d_LA_law_135 (by decide) (fun c_3 => ?_) (fun c_3 => absurd rfl c_3)
      refine K _ _ _ _ _ (by (try dsimp only); omega) (by (try dsimp only); omega) ⟨0, tx, ne, ef, rr, rm, nf, la, fl, fk, fd, fw, fv, sL, sR, Ls, th, du, wr, rn, rl, rD, rM, L9, hr, hc9, hp⟩ hX hI ls ?_
      exact lv_sub hl [0, 1, 2, 3] rfl
    · exact absurd (ok1.symm.trans ok2) (by decide)
  · have hr := hr.keep hFc (by decide)
    obtain ⟨mf, rg, g_M, hTx, hRd, hEm, hFf, v_13, hS0, hSh, hRt⟩ := id hr
    have hEd8 := hEd.keepF hFc (by decide); have hC8 := hC.keepF hFc (by decide) (by decide) (by decide); have hD8 := hD.keepF hFc (fun r9 q1 q2 q => by simp only [inR, List.mem_cons, List.not_mem_nil, or_false] at q; omega); have hIn8 := hIn.keepG hFc (fun r9 q1 q2 q => by simp only [inR, List.mem_cons, List.not_mem_nil, or_false] at q; omega); have hCh8 := hCh.keepF hFc (fun r9 o9 q1 q2 q => by simp only [inR, List.mem_cons, List.not_mem_nil, or_false] at q; omega)
    refine lv_aload_n hx hb d_LA_law_131 rfl (lv_at hl 2 rfl) ?_
    have hzA := hI.2.2.2.1
    refine f_calli hI (f_runV C hI (c_MO_read l G h9 _ M rg mf g_M tn tx hTx ne ef rr rm hEm hRd hKc.2.2.1) gm_MO_read w_935 w_936 w_934 g_M rfl rfl rfl hl.1 rfl (Nat.le_of_ble_eq_true rfl) ⟨Nat.le_of_ble_eq_true rfl, Nat.le_of_ble_eq_true rfl⟩ d_LA_law_132 ⟨by show _ ≤ 600000; (try dsimp only); omega, by show _ ≤ 7302250; (try dsimp only); omega⟩) (fun r_4 h9 H9 locs hp9 hX9 hz9 hI => ?_)
    obtain ⟨rg2, mf2, g_M, hm9, hTx9, hRd9, hF9, hor2⟩ := hp9
    have hX := fX.tr (Nat.le_trans (Nat.le_of_eq hsz.symm) hzA) hX hX9
    rw [hq] at hor2
    rcases hor2 with ⟨ok2, _⟩ | ⟨ok2, rfl, h40, rr2, hEm9, hlo, hrep9⟩
    · exact absurd (ok1.symm.trans ok2) (by decide)
    · have hr : rAll G h9 M 0 tx ne ef rr2 (va_up rm 10 L2.length) nf la fl fk fd fw fv sL sR Ls th du wr rn rl rD rM := ⟨mf2, rg2, g_M, hTx9, hRd9, hEm9, hFf.keep (fun j q1 q2 => hm9 j (by omega)) hF9 (by decide), (hm9 13 (by omega)).trans v_13, hS0.keep (fun j q1 q2 => hm9 j (by omega)) hF9 (by decide), hSh.keep (fun j q1 q2 => hm9 j (by omega)) hF9 (by decide), hRt.keep (fun j q1 q2 => hm9 j (by omega)) hF9 (by decide)⟩
      have hc8 : cAll G _ X 0 tx ne ef rr2 (va_up rm 10 L2.length) nf la fl fk fd fw fv sL sR Ls th du wr rn rl rD rM L2 := ⟨T, E, F, D, I, R9, W9, wa, nr, lr, mm, A, fa, gq, nn, pr, pm, chs, lt, rs, hv, d, 22, 23, 0, g_X9, ⟨hB9, bmm⟩, cEd_rd hEd8 hlo, cR_of hU9 h49 hrep9 (va_up_self _ _ _), hC8, ⟨hD8, hsh⟩, hIn8, ⟨hS9, Or.inr ⟨rfl, rfl⟩⟩, ⟨hCh8, hnr⟩, hlr, hwr⟩
      have hc9 := hc8.keep hF9 (by decide)
      have hp9 : pAll ef rr2 (va_up rm 10 L2.length) nf la fl fk fd th wr L2 := ⟨hrep9, va_up_self _ _ _, bla, hmon, hz0⟩
      refine lv_icmp_eq (tgt := 859) hx hb d_LA_law_135 (by decide) (fun c_5 => ?_) (fun c_5 => absurd rfl c_5)
      refine K _ _ _ _ _ (by (try dsimp only); omega) (by (try dsimp only); omega) ⟨0, tx, ne, ef, rr2, (va_up rm 10 L2.length), nf, la, fl, fk, fd, fw, fv, sL, sR, Ls, th, du, wr, rn, rl, rD, rM, L2, hr, hc9, hp9⟩ hX hI ls ?_
      exact lv_sub hl [0, 1, 2, 3] rfl
