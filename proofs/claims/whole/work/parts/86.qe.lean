set_option maxHeartbeats 8000000 in
set_option maxRecDepth 100000 in
/-- the law: duty -/
theorem q_duty {p : Program} {e : Env} {s : State} {m : MethodId} {below : List Frame} {meth : Method} {c : Code} (l : Launch) (G : gG) (h : fH) (b L X M n : Nat) (xs : Nat → Int32) (cS : ClassId) (C : gC G p s m #[Value.ref b] meth c (fA h s.heap.size) code 4 "DutyRulesLaw" meth.name) (hfb : fT s cS .int) (hK0 : cst G h b cS L xs) (bL : L ≤ 4608) (hn : 9 * n + 9 ≤ L)
    (K : ∀ (h2 : fH) (H : Heap) (locs : List Loc) (cs ss : Nat), cs ≤ 50 + 320 * (n + 1) → ss ≤ 190000 + 11800 * (n + 1) → LI G h2 X M → fX h s.heap.size h2 → fI G.1 g_cl (fA h s.heap.size) s.heap h2 H locs → ∀ ls : Array Slot, lv_has ls 4 [(0, .ref b), (1, .ref X), (2, .ref M), (3, .int (nI (9 * n)))] → W p l e room_1 s m #[Value.ref b] below meth c H locs cs ss (lw_Z below #[Value.ref b] s) (F0 m 859 ls []))
    : ∀ (h1 : fH) (H : Heap) (locs : List Loc) (cs ss : Nat), cs ≤ 50 + 320 * n → ss ≤ 190000 + 11800 * n → LI G h1 X M → fX h s.heap.size h1 → fI G.1 g_cl (fA h s.heap.size) s.heap h1 H locs → ∀ ls : Array Slot, lv_has ls 4 [(0, .ref b), (1, .ref X), (2, .ref M), (3, .int (nI (9 * n)))] → W p l e room_1 s m #[Value.ref b] below meth c H locs cs ss (lw_Z below #[Value.ref b] s) (F0 m 425 ls []) := by
  intro h1 H locs cs ss hcs hss hLI hX hI ls hl
  obtain ⟨hx, hb, hml, hown, hnm, hlk, hT, hG, hZ⟩ := id C
  have hK := hG.1
  have hsz : s.heap.size = s.heap.size := rfl
  obtain ⟨tn, tx, ne, ef, rr, rm, nf, la, fl, fk, fd, fw, fv, sL, sR, Ls, th, du, wr, rn, rl, rD, rM, L9, hr, hc, hp⟩ := hLI
  obtain ⟨mf, rg, g_M, hTx, hRd, hEm, hFf, v_13, hS0, hSh, hRt⟩ := id hr
  obtain ⟨T, E, F, D, I, R, Wr, wa, nr, lr, mm, A, fa, gq, nn, pr, pm, chs, lt, rs, hv, d, r1, r2, o1, g_X, ⟨hB, bmm⟩, hEd, hcR, hC, ⟨hD, hsh⟩, hIn, ⟨hS, hr12⟩, ⟨hCh, hnr⟩, hlr, hwr⟩ := id hc
  obtain ⟨hrep, hrm, bla, hmon, hz0⟩ := id hp
  have hKc := hK0.keepX hX
  have g_b := hKc.2.2.2
  have hn5 : n ≤ 511 := by omega
  have hoks := ed_ok hEm
  have hbd := rk_all hEm hFf
  obtain ⟨u1, hu1⟩ : ∃ z, xs (9 * n + 1) = z := ⟨_, rfl⟩
  obtain ⟨u2, hu2⟩ : ∃ z, xs (9 * n + 2) = z := ⟨_, rfl⟩
  obtain ⟨u3, hu3⟩ : ∃ z, xs (9 * n + 3) = z := ⟨_, rfl⟩
  obtain ⟨u4, hu4⟩ : ∃ z, xs (9 * n + 4) = z := ⟨_, rfl⟩
  obtain ⟨u5, hu5⟩ : ∃ z, xs (9 * n + 5) = z := ⟨_, rfl⟩
  obtain ⟨u6, hu6⟩ : ∃ z, xs (9 * n + 6) = z := ⟨_, rfl⟩
  obtain ⟨d2, hd2⟩ : ∃ z, (u2.toInt64 <<< ((32 : Int32).toInt64 &&& 63)) ||| (u3.toInt64 &&& 4294967295) = z := ⟨_, rfl⟩
  obtain ⟨d4, hd4⟩ : ∃ z, (u4.toInt64 <<< ((32 : Int32).toInt64 &&& 63)) ||| (u5.toInt64 &&& 4294967295) = z := ⟨_, rfl⟩
  by_cases hbad : (u1 < 0 ∨ 30 ≤ u1) ∨ (d2 < 0 ∨ 100000 < d2) ∨ (d4 < 0 ∨ 100000 < d4) ∨ u6 < 0 ∨ ¬ u6 ≤ 1
  · skip
    refine lv_aload_n hx hb d_LA_law_425 rfl (lv_at hl 1 rfl) ?_
    refine lv_aload_n hx hb d_LA_law_426 rfl (lv_at hl 0 rfl) ?_
    refine lv_iload_n hx hb d_LA_law_427 rfl (lv_at hl 3 rfl) ?_
    refine lv_iconst (v := 1) hx hb d_LA_law_428 (by decide) ?_
    refine lv_iadd hx hb d_LA_law_429 ?_
    refine f_asi (nI_add (9 * n) 1) ?_
    refine f_ialdn (k := ((9 * n) + 1)) (v := u1) hx hb hI g_b hfb (by omega) (by omega) hu1 d_LA_law_430 ?_
    refine lv_aload_n hx hb d_LA_law_431 rfl (lv_at hl 0 rfl) ?_
    refine lv_iload_n hx hb d_LA_law_432 rfl (lv_at hl 3 rfl) ?_
    refine lv_iconst (v := 2) hx hb d_LA_law_433 (by decide) ?_
    refine lv_iadd hx hb d_LA_law_434 ?_
    refine f_asi (nI_add (9 * n) 2) ?_
    refine f_ialdn (k := ((9 * n) + 2)) (v := u2) hx hb hI g_b hfb (by omega) (by omega) hu2 d_LA_law_435 ?_
    refine lv_i2l hx hb d_LA_law_436 rfl ?_
    refine lv_bipush (v := 32) hx hb d_LA_law_437 (by decide) ?_
    refine lv_lshl hx hb d_LA_law_439 rfl ?_
    refine lv_aload_n hx hb d_LA_law_440 rfl (lv_at hl 0 rfl) ?_
    refine lv_iload_n hx hb d_LA_law_441 rfl (lv_at hl 3 rfl) ?_
    refine lv_iconst (v := 3) hx hb d_LA_law_442 (by decide) ?_
    refine lv_iadd hx hb d_LA_law_443 ?_
    refine f_asi (nI_add (9 * n) 3) ?_
    refine f_ialdn (k := ((9 * n) + 3)) (v := u3) hx hb hI g_b hfb (by omega) (by omega) hu3 d_LA_law_444 ?_
    refine lv_i2l hx hb d_LA_law_445 rfl ?_
    refine lv_ldc2 (v := 4294967295) hx hb hown (hT _ w_1095) d_LA_law_446 ?_
    refine lv_land hx hb d_LA_law_449 ?_
    refine lv_lor hx hb d_LA_law_450 ?_
    refine f_asl hd2 ?_
    refine lv_aload_n hx hb d_LA_law_451 rfl (lv_at hl 0 rfl) ?_
    refine lv_iload_n hx hb d_LA_law_452 rfl (lv_at hl 3 rfl) ?_
    refine lv_iconst (v := 4) hx hb d_LA_law_453 (by decide) ?_
    refine lv_iadd hx hb d_LA_law_454 ?_
    refine f_asi (nI_add (9 * n) 4) ?_
    refine f_ialdn (k := ((9 * n) + 4)) (v := u4) hx hb hI g_b hfb (by omega) (by omega) hu4 d_LA_law_455 ?_
    refine lv_i2l hx hb d_LA_law_456 rfl ?_
    refine lv_bipush (v := 32) hx hb d_LA_law_457 (by decide) ?_
    refine lv_lshl hx hb d_LA_law_459 rfl ?_
    refine lv_aload_n hx hb d_LA_law_460 rfl (lv_at hl 0 rfl) ?_
    refine lv_iload_n hx hb d_LA_law_461 rfl (lv_at hl 3 rfl) ?_
    refine lv_iconst (v := 5) hx hb d_LA_law_462 (by decide) ?_
    refine lv_iadd hx hb d_LA_law_463 ?_
    refine f_asi (nI_add (9 * n) 5) ?_
    refine f_ialdn (k := ((9 * n) + 5)) (v := u5) hx hb hI g_b hfb (by omega) (by omega) hu5 d_LA_law_464 ?_
    refine lv_i2l hx hb d_LA_law_465 rfl ?_
    refine lv_ldc2 (v := 4294967295) hx hb hown (hT _ w_1095) d_LA_law_466 ?_
    refine lv_land hx hb d_LA_law_469 ?_
    refine lv_lor hx hb d_LA_law_470 ?_
    refine f_asl hd4 ?_
    refine lv_aload_n hx hb d_LA_law_471 rfl (lv_at hl 0 rfl) ?_
    refine lv_iload_n hx hb d_LA_law_472 rfl (lv_at hl 3 rfl) ?_
    refine lv_bipush (v := 6) hx hb d_LA_law_473 (by decide) ?_
    refine lv_iadd hx hb d_LA_law_475 ?_
    refine f_asi (nI_add (9 * n) 6) ?_
    refine f_ialdn (k := ((9 * n) + 6)) (v := u6) hx hb hI g_b hfb (by omega) (by omega) hu6 d_LA_law_476 ?_
    refine f_calll hI (f_runV C hI (c_DR_duty_no l G h1 _ X T E F D I R Wr wa nr lr g_X u1 d2 d4 u6 hbad) gm_DR_duty w_615 w_616 w_614 g_X rfl rfl rfl hl.1 rfl (Nat.le_of_ble_eq_true rfl) ⟨Nat.le_of_ble_eq_true rfl, Nat.le_of_ble_eq_true rfl⟩ d_LA_law_477 ⟨by show _ ≤ 600000; (try dsimp only); omega, by show _ ≤ 7302250; (try dsimp only); omega⟩) (fun r_1 h8 H9 locs hp9 hX9 hz9 hI => ?_)
    obtain ⟨rfl, e9⟩ := hp9
    rw [e9] at hI
    clear hX9 e9
    refine lv_aload_n hx hb d_LA_law_480 rfl (lv_at hl 2 rfl) ?_
    refine lv_aload_n hx hb d_LA_law_481 rfl (lv_at hl 0 rfl) ?_
    refine lv_iload_n hx hb d_LA_law_482 rfl (lv_at hl 3 rfl) ?_
    refine lv_iconst (v := 1) hx hb d_LA_law_483 (by decide) ?_
    refine lv_iadd hx hb d_LA_law_484 ?_
    refine f_asi (nI_add (9 * n) 1) ?_
    refine f_ialdn (k := ((9 * n) + 1)) (v := u1) hx hb hI g_b hfb (by omega) (by omega) hu1 d_LA_law_485 ?_
    refine lv_aload_n hx hb d_LA_law_486 rfl (lv_at hl 0 rfl) ?_
    refine lv_iload_n hx hb d_LA_law_487 rfl (lv_at hl 3 rfl) ?_
    refine lv_iconst (v := 2) hx hb d_LA_law_488 (by decide) ?_
    refine lv_iadd hx hb d_LA_law_489 ?_
    refine f_asi (nI_add (9 * n) 2) ?_
    refine f_ialdn (k := ((9 * n) + 2)) (v := u2) hx hb hI g_b hfb (by omega) (by omega) hu2 d_LA_law_490 ?_
    refine lv_i2l hx hb d_LA_law_491 rfl ?_
    refine lv_bipush (v := 32) hx hb d_LA_law_492 (by decide) ?_
    refine lv_lshl hx hb d_LA_law_494 rfl ?_
    refine lv_aload_n hx hb d_LA_law_495 rfl (lv_at hl 0 rfl) ?_
    refine lv_iload_n hx hb d_LA_law_496 rfl (lv_at hl 3 rfl) ?_
    refine lv_iconst (v := 3) hx hb d_LA_law_497 (by decide) ?_
    refine lv_iadd hx hb d_LA_law_498 ?_
    refine f_asi (nI_add (9 * n) 3) ?_
    refine f_ialdn (k := ((9 * n) + 3)) (v := u3) hx hb hI g_b hfb (by omega) (by omega) hu3 d_LA_law_499 ?_
    refine lv_i2l hx hb d_LA_law_500 rfl ?_
    refine lv_ldc2 (v := 4294967295) hx hb hown (hT _ w_1095) d_LA_law_501 ?_
    refine lv_land hx hb d_LA_law_504 ?_
    refine lv_lor hx hb d_LA_law_505 ?_
    refine f_asl hd2 ?_
    refine lv_aload_n hx hb d_LA_law_506 rfl (lv_at hl 0 rfl) ?_
    refine lv_iload_n hx hb d_LA_law_507 rfl (lv_at hl 3 rfl) ?_
    refine lv_iconst (v := 4) hx hb d_LA_law_508 (by decide) ?_
    refine lv_iadd hx hb d_LA_law_509 ?_
    refine f_asi (nI_add (9 * n) 4) ?_
    refine f_ialdn (k := ((9 * n) + 4)) (v := u4) hx hb hI g_b hfb (by omega) (by omega) hu4 d_LA_law_510 ?_
    refine lv_i2l hx hb d_LA_law_511 rfl ?_
    refine lv_bipush (v := 32) hx hb d_LA_law_512 (by decide) ?_
    refine lv_lshl hx hb d_LA_law_514 rfl ?_
    refine lv_aload_n hx hb d_LA_law_515 rfl (lv_at hl 0 rfl) ?_
    refine lv_iload_n hx hb d_LA_law_516 rfl (lv_at hl 3 rfl) ?_
    refine lv_iconst (v := 5) hx hb d_LA_law_517 (by decide) ?_
    refine lv_iadd hx hb d_LA_law_518 ?_
    refine f_asi (nI_add (9 * n) 5) ?_
    refine f_ialdn (k := ((9 * n) + 5)) (v := u5) hx hb hI g_b hfb (by omega) (by omega) hu5 d_LA_law_519 ?_
    refine lv_i2l hx hb d_LA_law_520 rfl ?_
    refine lv_ldc2 (v := 4294967295) hx hb hown (hT _ w_1095) d_LA_law_521 ?_
    refine lv_land hx hb d_LA_law_524 ?_
    refine lv_lor hx hb d_LA_law_525 ?_
    refine f_asl hd4 ?_
    refine lv_aload_n hx hb d_LA_law_526 rfl (lv_at hl 0 rfl) ?_
    refine lv_iload_n hx hb d_LA_law_527 rfl (lv_at hl 3 rfl) ?_
    refine lv_bipush (v := 6) hx hb d_LA_law_528 (by decide) ?_
    refine lv_iadd hx hb d_LA_law_530 ?_
    refine f_asi (nI_add (9 * n) 6) ?_
    refine f_ialdn (k := ((9 * n) + 6)) (v := u6) hx hb hI g_b hfb (by omega) (by omega) hu6 d_LA_law_531 ?_
    refine f_calll hI (f_runV C hI (c_MO_duty_no l G h1 _ M u1 d2 d4 u6 hbad) gm_MO_duty w_1014 w_1015 w_1013 g_M rfl rfl rfl hl.1 rfl (Nat.le_of_ble_eq_true rfl) ⟨Nat.le_of_ble_eq_true rfl, Nat.le_of_ble_eq_true rfl⟩ d_LA_law_532 ⟨by show _ ≤ 600000; (try dsimp only); omega, by show _ ≤ 7302250; (try dsimp only); omega⟩) (fun r_2 h8 H9 locs hp9 hX9 hz9 hI => ?_)
    obtain ⟨rfl, e9⟩ := hp9
    rw [e9] at hI
    clear hX9 e9
    refine f_lc_eq (tgt := 859) hx hb d_LA_law_535 d_LA_law_536 (by decide) (fun c_3 => ?_) (fun c_3 => absurd rfl c_3)
    refine K _ _ _ _ _ (by (try dsimp only); omega) (by (try dsimp only); omega) ⟨tn, tx, ne, ef, rr, rm, nf, la, fl, fk, fd, fw, fv, sL, sR, Ls, th, du, wr, rn, rl, rD, rM, L9, hr, hc, hp⟩ hX hI ls ?_
    exact lv_sub hl [0, 1, 2, 3] rfl
  · obtain ⟨lo, blo, hlo⟩ := rng_of (N := 30) (k := 30) (by decide) rfl (fun q => hbad (Or.inl q))
    obtain ⟨dd, bd, hdd⟩ := day_of (fun q => hbad (Or.inr (Or.inl q)))
    obtain ⟨oo, bo, hoo⟩ := day_of (fun q => hbad (Or.inr (Or.inr (Or.inl q))))
    subst hlo hdd hoo
    have hp1 : ¬ u6 < 0 := fun q => hbad (Or.inr (Or.inr (Or.inr (Or.inl q))))
    have hp2 : u6 ≤ 1 := Classical.byContradiction (fun q => hbad (Or.inr (Or.inr (Or.inr (Or.inr q)))))
    refine lv_aload_n hx hb d_LA_law_425 rfl (lv_at hl 1 rfl) ?_
    refine lv_aload_n hx hb d_LA_law_426 rfl (lv_at hl 0 rfl) ?_
    refine lv_iload_n hx hb d_LA_law_427 rfl (lv_at hl 3 rfl) ?_
    refine lv_iconst (v := 1) hx hb d_LA_law_428 (by decide) ?_
    refine lv_iadd hx hb d_LA_law_429 ?_
    refine f_asi (nI_add (9 * n) 1) ?_
    refine f_ialdn (k := ((9 * n) + 1)) (v := (nI lo)) hx hb hI g_b hfb (by omega) (by omega) hu1 d_LA_law_430 ?_
    refine lv_aload_n hx hb d_LA_law_431 rfl (lv_at hl 0 rfl) ?_
    refine lv_iload_n hx hb d_LA_law_432 rfl (lv_at hl 3 rfl) ?_
    refine lv_iconst (v := 2) hx hb d_LA_law_433 (by decide) ?_
    refine lv_iadd hx hb d_LA_law_434 ?_
    refine f_asi (nI_add (9 * n) 2) ?_
    refine f_ialdn (k := ((9 * n) + 2)) (v := u2) hx hb hI g_b hfb (by omega) (by omega) hu2 d_LA_law_435 ?_
    refine lv_i2l hx hb d_LA_law_436 rfl ?_
    refine lv_bipush (v := 32) hx hb d_LA_law_437 (by decide) ?_
    refine lv_lshl hx hb d_LA_law_439 rfl ?_
    refine lv_aload_n hx hb d_LA_law_440 rfl (lv_at hl 0 rfl) ?_
    refine lv_iload_n hx hb d_LA_law_441 rfl (lv_at hl 3 rfl) ?_
    refine lv_iconst (v := 3) hx hb d_LA_law_442 (by decide) ?_
    refine lv_iadd hx hb d_LA_law_443 ?_
    refine f_asi (nI_add (9 * n) 3) ?_
    refine f_ialdn (k := ((9 * n) + 3)) (v := u3) hx hb hI g_b hfb (by omega) (by omega) hu3 d_LA_law_444 ?_
    refine lv_i2l hx hb d_LA_law_445 rfl ?_
    refine lv_ldc2 (v := 4294967295) hx hb hown (hT _ w_1095) d_LA_law_446 ?_
    refine lv_land hx hb d_LA_law_449 ?_
    refine lv_lor hx hb d_LA_law_450 ?_
    refine f_asl hd2 ?_
    refine lv_aload_n hx hb d_LA_law_451 rfl (lv_at hl 0 rfl) ?_
    refine lv_iload_n hx hb d_LA_law_452 rfl (lv_at hl 3 rfl) ?_
    refine lv_iconst (v := 4) hx hb d_LA_law_453 (by decide) ?_
    refine lv_iadd hx hb d_LA_law_454 ?_
    refine f_asi (nI_add (9 * n) 4) ?_
    refine f_ialdn (k := ((9 * n) + 4)) (v := u4) hx hb hI g_b hfb (by omega) (by omega) hu4 d_LA_law_455 ?_
    refine lv_i2l hx hb d_LA_law_456 rfl ?_
    refine lv_bipush (v := 32) hx hb d_LA_law_457 (by decide) ?_
    refine lv_lshl hx hb d_LA_law_459 rfl ?_
    refine lv_aload_n hx hb d_LA_law_460 rfl (lv_at hl 0 rfl) ?_
    refine lv_iload_n hx hb d_LA_law_461 rfl (lv_at hl 3 rfl) ?_
    refine lv_iconst (v := 5) hx hb d_LA_law_462 (by decide) ?_
    refine lv_iadd hx hb d_LA_law_463 ?_
    refine f_asi (nI_add (9 * n) 5) ?_
    refine f_ialdn (k := ((9 * n) + 5)) (v := u5) hx hb hI g_b hfb (by omega) (by omega) hu5 d_LA_law_464 ?_
    refine lv_i2l hx hb d_LA_law_465 rfl ?_
    refine lv_ldc2 (v := 4294967295) hx hb hown (hT _ w_1095) d_LA_law_466 ?_
    refine lv_land hx hb d_LA_law_469 ?_
    refine lv_lor hx hb d_LA_law_470 ?_
    refine f_asl hd4 ?_
    refine lv_aload_n hx hb d_LA_law_471 rfl (lv_at hl 0 rfl) ?_
    refine lv_iload_n hx hb d_LA_law_472 rfl (lv_at hl 3 rfl) ?_
    refine lv_bipush (v := 6) hx hb d_LA_law_473 (by decide) ?_
    refine lv_iadd hx hb d_LA_law_475 ?_
    refine f_asi (nI_add (9 * n) 6) ?_
    refine f_ialdn (k := ((9 * n) + 6)) (v := u6) hx hb hI g_b hfb (by omega) (by omega) hu6 d_LA_law_476 ?_
    have hzA := hI.2.2.2.1
    refine f_calll hI (f_runV C hI (c_DR_duty_ok l G h1 _ X T E F D I R Wr wa nr lr g_X ne ef rr rm hEd A fa gq nf la fl fk fd fw fv hC hoks hbd lt rs hv d hD lo dd oo u6 blo bd bo hp1 hp2) gm_DR_duty w_615 w_616 w_614 g_X rfl rfl rfl hl.1 rfl (Nat.le_of_ble_eq_true rfl) ⟨Nat.le_of_ble_eq_true rfl, Nat.le_of_ble_eq_true rfl⟩ d_LA_law_477 ⟨by show _ ≤ 600000; (try dsimp only); omega, by show _ ≤ 7302250; (try dsimp only); omega⟩) (fun r_4 h9 H9 locs hp9 hX9 hz9 hI => ?_)
    obtain ⟨rfl, g_X9, ⟨hv9, hD9⟩, hF9⟩ := hp9
    have hX := fX.tr (Nat.le_trans (Nat.le_of_eq hsz.symm) hzA) hX hX9
    have hFc : fF (inR [1, 13, 14, 15, 16, 17]) h1 h9 := hF9.mono (fun r9 o9 z => (by simp only [inR, inD, inXD, inRt, List.mem_cons, List.not_mem_nil, or_false] at z ⊢; omega : inR [1, 13, 14, 15, 16, 17] r9 o9))
    have hr := hr.keep hFc (by decide)
    obtain ⟨mf, rg, g_M, hTx, hRd, hEm, hFf, v_13, hS0, hSh, hRt⟩ := id hr
    have hKc := hK0.keepX hX
    have g_b := hKc.2.2.2
    have hS8 := hS.keepF hFc (nr_1 hr12 (by decide)) (nr_2 hr12 (by decide))
    have hc9 : cAll G h9 X tn tx ne ef rr rm nf la fl fk fd fw fv (nI lo) (rk (mK nf fl fk fd fw fv lo dd oo) (mE ne ef rr rm dd)).1 (rk (mK nf fl fk fd fw fv lo dd oo) (mE ne ef rr rm dd)).2.1 th du wr rn rl rD rM L9 := ⟨T, E, F, D, I, R, Wr, 1, nr, lr, mm, A, fa, gq, nn, pr, pm, chs, (nI lo), (rk (mK nf fl fk fd fw fv lo dd oo) (mE ne ef rr rm dd)).1, hv9, (rk (mK nf fl fk fd fw fv lo dd oo) (mE ne ef rr rm dd)).2, r1, r2, o1, g_X9, ⟨hB.keepF hFc (by decide) (by decide), bmm⟩, hEd.keepF hFc (by decide), hcR.keepF hFc (by decide) (by decide) (by decide), hC.keepF hFc (by decide) (by decide) (by decide), ⟨hD9, Or.inr ⟨rfl, n_m1 (by omega), rfl, rfl, rfl⟩, rk_st hEm hFf lo dd oo⟩, (hIn.keepG hF9 (fun r9 q1 q2 q => q.elim (fun z => by omega) (fun z => absurd z.2.2 (by decide)))), ⟨hS8, hr12⟩, ⟨hCh.keepF hFc (fun r9 o9 q1 q2 q => by simp only [inR, List.mem_cons, List.not_mem_nil, or_false] at q; omega), hnr⟩, hlr, hwr⟩
    refine lv_aload_n hx hb d_LA_law_480 rfl (lv_at hl 2 rfl) ?_
    refine lv_aload_n hx hb d_LA_law_481 rfl (lv_at hl 0 rfl) ?_
    refine lv_iload_n hx hb d_LA_law_482 rfl (lv_at hl 3 rfl) ?_
    refine lv_iconst (v := 1) hx hb d_LA_law_483 (by decide) ?_
    refine lv_iadd hx hb d_LA_law_484 ?_
    refine f_asi (nI_add (9 * n) 1) ?_
    refine f_ialdn (k := ((9 * n) + 1)) (v := (nI lo)) hx hb hI g_b hfb (by omega) (by omega) hu1 d_LA_law_485 ?_
    refine lv_aload_n hx hb d_LA_law_486 rfl (lv_at hl 0 rfl) ?_
    refine lv_iload_n hx hb d_LA_law_487 rfl (lv_at hl 3 rfl) ?_
    refine lv_iconst (v := 2) hx hb d_LA_law_488 (by decide) ?_
    refine lv_iadd hx hb d_LA_law_489 ?_
    refine f_asi (nI_add (9 * n) 2) ?_
    refine f_ialdn (k := ((9 * n) + 2)) (v := u2) hx hb hI g_b hfb (by omega) (by omega) hu2 d_LA_law_490 ?_
    refine lv_i2l hx hb d_LA_law_491 rfl ?_
    refine lv_bipush (v := 32) hx hb d_LA_law_492 (by decide) ?_
    refine lv_lshl hx hb d_LA_law_494 rfl ?_
    refine lv_aload_n hx hb d_LA_law_495 rfl (lv_at hl 0 rfl) ?_
    refine lv_iload_n hx hb d_LA_law_496 rfl (lv_at hl 3 rfl) ?_
    refine lv_iconst (v := 3) hx hb d_LA_law_497 (by decide) ?_
    refine lv_iadd hx hb d_LA_law_498 ?_
    refine f_asi (nI_add (9 * n) 3) ?_
    refine f_ialdn (k := ((9 * n) + 3)) (v := u3) hx hb hI g_b hfb (by omega) (by omega) hu3 d_LA_law_499 ?_
    refine lv_i2l hx hb d_LA_law_500 rfl ?_
    refine lv_ldc2 (v := 4294967295) hx hb hown (hT _ w_1095) d_LA_law_501 ?_
    refine lv_land hx hb d_LA_law_504 ?_
    refine lv_lor hx hb d_LA_law_505 ?_
    refine f_asl hd2 ?_
    refine lv_aload_n hx hb d_LA_law_506 rfl (lv_at hl 0 rfl) ?_
    refine lv_iload_n hx hb d_LA_law_507 rfl (lv_at hl 3 rfl) ?_
    refine lv_iconst (v := 4) hx hb d_LA_law_508 (by decide) ?_
    refine lv_iadd hx hb d_LA_law_509 ?_
    refine f_asi (nI_add (9 * n) 4) ?_
    refine f_ialdn (k := ((9 * n) + 4)) (v := u4) hx hb hI g_b hfb (by omega) (by omega) hu4 d_LA_law_510 ?_
    refine lv_i2l hx hb d_LA_law_511 rfl ?_
    refine lv_bipush (v := 32) hx hb d_LA_law_512 (by decide) ?_
    refine lv_lshl hx hb d_LA_law_514 rfl ?_
    refine lv_aload_n hx hb d_LA_law_515 rfl (lv_at hl 0 rfl) ?_
    refine lv_iload_n hx hb d_LA_law_516 rfl (lv_at hl 3 rfl) ?_
    refine lv_iconst (v := 5) hx hb d_LA_law_517 (by decide) ?_
    refine lv_iadd hx hb d_LA_law_518 ?_
    refine f_asi (nI_add (9 * n) 5) ?_
    refine f_ialdn (k := ((9 * n) + 5)) (v := u5) hx hb hI g_b hfb (by omega) (by omega) hu5 d_LA_law_519 ?_
    refine lv_i2l hx hb d_LA_law_520 rfl ?_
    refine lv_ldc2 (v := 4294967295) hx hb hown (hT _ w_1095) d_LA_law_521 ?_
    refine lv_land hx hb d_LA_law_524 ?_
    refine lv_lor hx hb d_LA_law_525 ?_
    refine f_asl hd4 ?_
    refine lv_aload_n hx hb d_LA_law_526 rfl (lv_at hl 0 rfl) ?_
    refine lv_iload_n hx hb d_LA_law_527 rfl (lv_at hl 3 rfl) ?_
    refine lv_bipush (v := 6) hx hb d_LA_law_528 (by decide) ?_
    refine lv_iadd hx hb d_LA_law_530 ?_
    refine f_asi (nI_add (9 * n) 6) ?_
    refine f_ialdn (k := ((9 * n) + 6)) (v := u6) hx hb hI g_b hfb (by omega) (by omega) hu6 d_LA_law_531 ?_
    have hzA := hI.2.2.2.1
    refine f_calll hI (f_runV C hI (c_MO_duty_ok l G h9 _ M lo dd oo u6 mf g_M nf fl fk fd fw fv hFf ne ef rr rm hEm hS0 sL sR Ls hSh blo bd bo hp1 hp2) gm_MO_duty w_1014 w_1015 w_1013 g_M rfl rfl rfl hl.1 rfl (Nat.le_of_ble_eq_true rfl) ⟨Nat.le_of_ble_eq_true rfl, Nat.le_of_ble_eq_true rfl⟩ d_LA_law_532 ⟨by show _ ≤ 600000; (try dsimp only); omega, by show _ ≤ 7302250; (try dsimp only); omega⟩) (fun r_5 h9 H9 locs hp9 hX9 hz9 hI => ?_)
    obtain ⟨rfl, mf2, g_M, hm9, hS09, hSh9, hF9⟩ := hp9
    have hX := fX.tr (Nat.le_trans (Nat.le_of_eq hsz.symm) hzA) hX hX9
    have hr : rAll G h9 M tn tx ne ef rr rm nf la fl fk fd fw fv (nI lo) (rk (mK nf fl fk fd fw fv lo dd oo) (mE ne ef rr rm dd)).1 (rk (mK nf fl fk fd fw fv lo dd oo) (mE ne ef rr rm dd)).2.1 th du wr rn rl rD rM := ⟨mf2, rg, g_M, hTx.keep (fun j q1 q2 => hm9 j (by omega)) hF9 (by decide), hRd.keep (fun j q1 q2 => hm9 j (by omega)) hF9 (by decide), hEm.keep (fun j q1 q2 => hm9 j (by omega)) hF9 (by decide), hFf.keep (fun j q1 q2 => hm9 j (by omega)) hF9 (by decide), (hm9 13 (by omega)).trans v_13, hS09, hSh9, hRt.keep (fun j q1 q2 => hm9 j (by omega)) hF9 (by decide)⟩
    have hc9 := hc9.keep hF9 (by decide)
    refine f_lc_eq (tgt := 859) hx hb d_LA_law_535 d_LA_law_536 (by decide) (fun c_6 => ?_) (fun c_6 => absurd rfl c_6)
    refine K _ _ _ _ _ (by (try dsimp only); omega) (by (try dsimp only); omega) ⟨tn, tx, ne, ef, rr, rm, nf, la, fl, fk, fd, fw, fv, (nI lo), (rk (mK nf fl fk fd fw fv lo dd oo) (mE ne ef rr rm dd)).1, (rk (mK nf fl fk fd fw fv lo dd oo) (mE ne ef rr rm dd)).2.1, th, du, wr, rn, rl, rD, rM, L9, hr, hc9, hp⟩ hX hI ls ?_
    exact lv_sub hl [0, 1, 2, 3] rfl
set_option maxHeartbeats 8000000 in
set_option maxRecDepth 100000 in
/-- the law: allowed -/
theorem q_allowed {p : Program} {e : Env} {s : State} {m : MethodId} {below : List Frame} {meth : Method} {c : Code} (l : Launch) (G : gG) (h : fH) (b L X M n : Nat) (xs : Nat → Int32) (cS : ClassId) (C : gC G p s m #[Value.ref b] meth c (fA h s.heap.size) code 4 "DutyRulesLaw" meth.name) (hfb : fT s cS .int) (hK0 : cst G h b cS L xs) (bL : L ≤ 4608) (hn : 9 * n + 9 ≤ L)
    (K : ∀ (h2 : fH) (H : Heap) (locs : List Loc) (cs ss : Nat), cs ≤ 50 + 320 * (n + 1) → ss ≤ 190000 + 11800 * (n + 1) → LI G h2 X M → fX h s.heap.size h2 → fI G.1 g_cl (fA h s.heap.size) s.heap h2 H locs → ∀ ls : Array Slot, lv_has ls 4 [(0, .ref b), (1, .ref X), (2, .ref M), (3, .int (nI (9 * n)))] → W p l e room_1 s m #[Value.ref b] below meth c H locs cs ss (lw_Z below #[Value.ref b] s) (F0 m 859 ls []))
    : ∀ (h1 : fH) (H : Heap) (locs : List Loc) (cs ss : Nat), cs ≤ 50 + 320 * n → ss ≤ 190000 + 11800 * n → LI G h1 X M → fX h s.heap.size h1 → fI G.1 g_cl (fA h s.heap.size) s.heap h1 H locs → ∀ ls : Array Slot, lv_has ls 4 [(0, .ref b), (1, .ref X), (2, .ref M), (3, .int (nI (9 * n)))] → W p l e room_1 s m #[Value.ref b] below meth c H locs cs ss (lw_Z below #[Value.ref b] s) (F0 m 607 ls []) := by
  intro h1 H locs cs ss hcs hss hLI hX hI ls hl
  obtain ⟨hx, hb, hml, hown, hnm, hlk, hT, hG, hZ⟩ := id C
  have hK := hG.1
  have hsz : s.heap.size = s.heap.size := rfl
  obtain ⟨tn, tx, ne, ef, rr, rm, nf, la, fl, fk, fd, fw, fv, sL, sR, Ls, th, du, wr, rn, rl, rD, rM, L9, hr, hc, hp⟩ := hLI
  obtain ⟨mf, rg, g_M, hTx, hRd, hEm, hFf, v_13, hS0, hSh, hRt⟩ := id hr
  obtain ⟨T, E, F, D, I, R, Wr, wa, nr, lr, mm, A, fa, gq, nn, pr, pm, chs, lt, rs, hv, d, r1, r2, o1, g_X, ⟨hB, bmm⟩, hEd, hcR, hC, ⟨hD, hsh⟩, hIn, ⟨hS, hr12⟩, ⟨hCh, hnr⟩, hlr, hwr⟩ := id hc
  obtain ⟨hrep, hrm, bla, hmon, hz0⟩ := id hp
  have hKc := hK0.keepX hX
  have g_b := hKc.2.2.2
  have hn5 : n ≤ 511 := by omega
  have hoks := ed_ok hEm
  have hbd := rk_all hEm hFf
  obtain ⟨u1, hu1⟩ : ∃ z, xs (9 * n + 1) = z := ⟨_, rfl⟩
  obtain ⟨u2, hu2⟩ : ∃ z, xs (9 * n + 2) = z := ⟨_, rfl⟩
  by_cases hbad : (u1 < 0 ∨ 3001 ≤ u1) ∨ u2 < 0 ∨ ¬ u2 ≤ 1
  · skip
    refine lv_aload_n hx hb d_LA_law_607 rfl (lv_at hl 1 rfl) ?_
    refine lv_aload_n hx hb d_LA_law_608 rfl (lv_at hl 0 rfl) ?_
    refine lv_iload_n hx hb d_LA_law_609 rfl (lv_at hl 3 rfl) ?_
    refine lv_iconst (v := 1) hx hb d_LA_law_610 (by decide) ?_
    refine lv_iadd hx hb d_LA_law_611 ?_
    refine f_asi (nI_add (9 * n) 1) ?_
    refine f_ialdn (k := ((9 * n) + 1)) (v := u1) hx hb hI g_b hfb (by omega) (by omega) hu1 d_LA_law_612 ?_
    refine lv_aload_n hx hb d_LA_law_613 rfl (lv_at hl 0 rfl) ?_
    refine lv_iload_n hx hb d_LA_law_614 rfl (lv_at hl 3 rfl) ?_
    refine lv_iconst (v := 2) hx hb d_LA_law_615 (by decide) ?_
    refine lv_iadd hx hb d_LA_law_616 ?_
    refine f_asi (nI_add (9 * n) 2) ?_
    refine f_ialdn (k := ((9 * n) + 2)) (v := u2) hx hb hI g_b hfb (by omega) (by omega) hu2 d_LA_law_617 ?_
    refine f_calll hI (f_runV C hI (c_DR_allowed_no l G h1 _ X T E F D I R Wr wa nr lr g_X u1 u2 hbad) gm_DR_allowed w_697 w_698 w_696 g_X rfl rfl rfl hl.1 rfl (Nat.le_of_ble_eq_true rfl) ⟨Nat.le_of_ble_eq_true rfl, Nat.le_of_ble_eq_true rfl⟩ d_LA_law_618 ⟨by show _ ≤ 600000; (try dsimp only); omega, by show _ ≤ 7302250; (try dsimp only); omega⟩) (fun r_1 h8 H9 locs hp9 hX9 hz9 hI => ?_)
    obtain ⟨rfl, e9⟩ := hp9
    rw [e9] at hI
    clear hX9 e9
    refine lv_aload_n hx hb d_LA_law_621 rfl (lv_at hl 2 rfl) ?_
    refine lv_aload_n hx hb d_LA_law_622 rfl (lv_at hl 0 rfl) ?_
    refine lv_iload_n hx hb d_LA_law_623 rfl (lv_at hl 3 rfl) ?_
    refine lv_iconst (v := 1) hx hb d_LA_law_624 (by decide) ?_
    refine lv_iadd hx hb d_LA_law_625 ?_
    refine f_asi (nI_add (9 * n) 1) ?_
    refine f_ialdn (k := ((9 * n) + 1)) (v := u1) hx hb hI g_b hfb (by omega) (by omega) hu1 d_LA_law_626 ?_
    refine lv_aload_n hx hb d_LA_law_627 rfl (lv_at hl 0 rfl) ?_
    refine lv_iload_n hx hb d_LA_law_628 rfl (lv_at hl 3 rfl) ?_
    refine lv_iconst (v := 2) hx hb d_LA_law_629 (by decide) ?_
    refine lv_iadd hx hb d_LA_law_630 ?_
    refine f_asi (nI_add (9 * n) 2) ?_
    refine f_ialdn (k := ((9 * n) + 2)) (v := u2) hx hb hI g_b hfb (by omega) (by omega) hu2 d_LA_law_631 ?_
    refine f_calll hI (f_runV C hI (c_MO_allowed_no l G h1 _ M u1 u2 hbad) gm_MO_allowed w_1063 w_1064 w_1062 g_M rfl rfl rfl hl.1 rfl (Nat.le_of_ble_eq_true rfl) ⟨Nat.le_of_ble_eq_true rfl, Nat.le_of_ble_eq_true rfl⟩ d_LA_law_632 ⟨by show _ ≤ 600000; (try dsimp only); omega, by show _ ≤ 7302250; (try dsimp only); omega⟩) (fun r_2 h8 H9 locs hp9 hX9 hz9 hI => ?_)
    obtain ⟨rfl, e9⟩ := hp9
    rw [e9] at hI
    clear hX9 e9
    refine f_lc_eq (tgt := 859) hx hb d_LA_law_635 d_LA_law_636 (by decide) (fun c_3 => ?_) (fun c_3 => absurd rfl c_3)
    refine K _ _ _ _ _ (by (try dsimp only); omega) (by (try dsimp only); omega) ⟨tn, tx, ne, ef, rr, rm, nf, la, fl, fk, fd, fw, fv, sL, sR, Ls, th, du, wr, rn, rl, rD, rM, L9, hr, hc, hp⟩ hX hI ls ?_
    exact lv_sub hl [0, 1, 2, 3] rfl
  · obtain ⟨mn, bm1, hmn⟩ := rng_of (N := 3001) (k := 3001) (by decide) rfl (fun q => hbad (Or.inl q))
    subst hmn
    have bm : mn ≤ 3000 := by omega
    have hp1 : ¬ u2 < 0 := fun q => hbad (Or.inr (Or.inl q))
    have hp2 : u2 ≤ 1 := Classical.byContradiction (fun q => hbad (Or.inr (Or.inr q)))
    refine lv_aload_n hx hb d_LA_law_607 rfl (lv_at hl 1 rfl) ?_
    refine lv_aload_n hx hb d_LA_law_608 rfl (lv_at hl 0 rfl) ?_
    refine lv_iload_n hx hb d_LA_law_609 rfl (lv_at hl 3 rfl) ?_
    refine lv_iconst (v := 1) hx hb d_LA_law_610 (by decide) ?_
    refine lv_iadd hx hb d_LA_law_611 ?_
    refine f_asi (nI_add (9 * n) 1) ?_
    refine f_ialdn (k := ((9 * n) + 1)) (v := (nI mn)) hx hb hI g_b hfb (by omega) (by omega) hu1 d_LA_law_612 ?_
    refine lv_aload_n hx hb d_LA_law_613 rfl (lv_at hl 0 rfl) ?_
    refine lv_iload_n hx hb d_LA_law_614 rfl (lv_at hl 3 rfl) ?_
    refine lv_iconst (v := 2) hx hb d_LA_law_615 (by decide) ?_
    refine lv_iadd hx hb d_LA_law_616 ?_
    refine f_asi (nI_add (9 * n) 2) ?_
    refine f_ialdn (k := ((9 * n) + 2)) (v := u2) hx hb hI g_b hfb (by omega) (by omega) hu2 d_LA_law_617 ?_
    have hzA := hI.2.2.2.1
    refine f_calll hI (f_runV C hI (c_DR_allowed_ok l G h1 _ X T E F D I R Wr wa nr lr g_X ne ef rr rm hEd A fa gq nf la fl fk fd fw fv hC hoks hbd hIn mn u2 bm hp1 hp2) gm_DR_allowed w_697 w_698 w_696 g_X rfl rfl rfl hl.1 rfl (Nat.le_of_ble_eq_true rfl) ⟨Nat.le_of_ble_eq_true rfl, Nat.le_of_ble_eq_true rfl⟩ d_LA_law_618 ⟨by show _ ≤ 600000; (try dsimp only); omega, by show _ ≤ 7302250; (try dsimp only); omega⟩) (fun r_4 h9 H9 locs hp9 hX9 hz9 hI => ?_)
    obtain ⟨rfl, hIn9, hF9⟩ := hp9
    have hX := fX.tr (Nat.le_trans (Nat.le_of_eq hsz.symm) hzA) hX hX9
    have hFc : fF (inR [13, 14, 15, 16, 17]) h1 h9 := hF9.mono (fun r9 o9 z => (by simp only [inR, inD, inXD, inRt, List.mem_cons, List.not_mem_nil, or_false] at z ⊢; omega : inR [13, 14, 15, 16, 17] r9 o9))
    have hr := hr.keep hFc (by decide)
    obtain ⟨mf, rg, g_M, hTx, hRd, hEm, hFf, v_13, hS0, hSh, hRt⟩ := id hr
    have hKc := hK0.keepX hX
    have g_b := hKc.2.2.2
    have hS8 := hS.keepF hFc (nr_1 hr12 (by decide)) (nr_2 hr12 (by decide))
    have hc9 : cAll G h9 X tn tx ne ef rr rm nf la fl fk fd fw fv sL sR Ls th du wr rn rl rD rM L9 := ⟨T, E, F, D, I, R, Wr, wa, nr, lr, mm, A, fa, gq, nn, pr, pm, chs, lt, rs, hv, d, r1, r2, o1, hFc _ _ _ _ g_X (by decide), ⟨hB.keepF hFc (by decide) (by decide), bmm⟩, hEd.keepF hFc (by decide), hcR.keepF hFc (by decide) (by decide) (by decide), hC.keepF hFc (by decide) (by decide) (by decide), ⟨hD.keepF hF9 (fun r9 q1 q2 q => by have := q.2.2; omega), hsh⟩, hIn9, ⟨hS8, hr12⟩, ⟨hCh.keepF hFc (fun r9 o9 q1 q2 q => by simp only [inR, List.mem_cons, List.not_mem_nil, or_false] at q; omega), hnr⟩, hlr, hwr⟩
    refine lv_aload_n hx hb d_LA_law_621 rfl (lv_at hl 2 rfl) ?_
    refine lv_aload_n hx hb d_LA_law_622 rfl (lv_at hl 0 rfl) ?_
    refine lv_iload_n hx hb d_LA_law_623 rfl (lv_at hl 3 rfl) ?_
    refine lv_iconst (v := 1) hx hb d_LA_law_624 (by decide) ?_
    refine lv_iadd hx hb d_LA_law_625 ?_
    refine f_asi (nI_add (9 * n) 1) ?_
    refine f_ialdn (k := ((9 * n) + 1)) (v := (nI mn)) hx hb hI g_b hfb (by omega) (by omega) hu1 d_LA_law_626 ?_
    refine lv_aload_n hx hb d_LA_law_627 rfl (lv_at hl 0 rfl) ?_
    refine lv_iload_n hx hb d_LA_law_628 rfl (lv_at hl 3 rfl) ?_
    refine lv_iconst (v := 2) hx hb d_LA_law_629 (by decide) ?_
    refine lv_iadd hx hb d_LA_law_630 ?_
    refine f_asi (nI_add (9 * n) 2) ?_
    refine f_ialdn (k := ((9 * n) + 2)) (v := u2) hx hb hI g_b hfb (by omega) (by omega) hu2 d_LA_law_631 ?_
    have hzA := hI.2.2.2.1
    refine f_calll hI (f_runV C hI (c_MO_allowed_ok l G h9 _ M mn u2 mf g_M nf fl fk fd fw fv hFf ne ef rr rm hEm hS0 bm hp1 hp2) gm_MO_allowed w_1063 w_1064 w_1062 g_M rfl rfl rfl hl.1 rfl (Nat.le_of_ble_eq_true rfl) ⟨Nat.le_of_ble_eq_true rfl, Nat.le_of_ble_eq_true rfl⟩ d_LA_law_632 ⟨by show _ ≤ 600000; (try dsimp only); omega, by show _ ≤ 7302250; (try dsimp only); omega⟩) (fun r_5 h9 H9 locs hp9 hX9 hz9 hI => ?_)
    obtain ⟨hv9, mf2, g_M, hm9, hS09, hF9⟩ := hp9
    have hX := fX.tr (Nat.le_trans (Nat.le_of_eq hsz.symm) hzA) hX hX9
    have hr : rAll G h9 M tn tx ne ef rr rm nf la fl fk fd fw fv sL sR Ls th du wr rn rl rD rM := ⟨mf2, rg, g_M, hTx.keep (fun j q1 q2 => hm9 j (by omega)) hF9 (by decide), hRd.keep (fun j q1 q2 => hm9 j (by omega)) hF9 (by decide), hEm.keep (fun j q1 q2 => hm9 j (by omega)) hF9 (by decide), hFf.keep (fun j q1 q2 => hm9 j (by omega)) hF9 (by decide), (hm9 13 (by omega)).trans v_13, hS09, hSh.keep (fun j q1 q2 => hm9 j (by omega)) hF9 (by decide), hRt.keep (fun j q1 q2 => hm9 j (by omega)) hF9 (by decide)⟩
    have hc9 := hc9.keep hF9 (by decide)
    refine f_asl (hv9.trans (show _ = frA (sumN (fun l => (rk (mK nf fl fk fd fw fv l (30 * mn + 29) (30 * mn + 29)) (mE ne ef rr rm (30 * mn + 29))).2.2.1) 30) 10000 u2 from rfl)) ?_
    refine f_lc_eq (tgt := 859) hx hb d_LA_law_635 d_LA_law_636 (by decide) (fun c_6 => ?_) (fun c_6 => absurd rfl c_6)
    refine K _ _ _ _ _ (by (try dsimp only); omega) (by (try dsimp only); omega) ⟨tn, tx, ne, ef, rr, rm, nf, la, fl, fk, fd, fw, fv, sL, sR, Ls, th, du, wr, rn, rl, rD, rM, L9, hr, hc9, hp⟩ hX hI ls ?_
    exact lv_sub hl [0, 1, 2, 3] rfl
set_option maxHeartbeats 8000000 in
set_option maxRecDepth 100000 in
/-- the law: step -/
theorem q_step {p : Program} {e : Env} {s : State} {m : MethodId} {below : List Frame} {meth : Method} {c : Code} (l : Launch) (G : gG) (h : fH) (b L X M n : Nat) (xs : Nat → Int32) (cS : ClassId) (C : gC G p s m #[Value.ref b] meth c (fA h s.heap.size) code 4 "DutyRulesLaw" meth.name) (hfb : fT s cS .int) (hK0 : cst G h b cS L xs) (bL : L ≤ 4608) (hn : 9 * n + 9 ≤ L)
    (K : ∀ (h2 : fH) (H : Heap) (locs : List Loc) (cs ss : Nat), cs ≤ 50 + 320 * (n + 1) → ss ≤ 190000 + 11800 * (n + 1) → LI G h2 X M → fX h s.heap.size h2 → fI G.1 g_cl (fA h s.heap.size) s.heap h2 H locs → ∀ ls : Array Slot, lv_has ls 4 [(0, .ref b), (1, .ref X), (2, .ref M), (3, .int (nI (9 * n)))] → W p l e room_1 s m #[Value.ref b] below meth c H locs cs ss (lw_Z below #[Value.ref b] s) (F0 m 859 ls []))
    : ∀ (h1 : fH) (H : Heap) (locs : List Loc) (cs ss : Nat), cs ≤ 50 + 320 * n → ss ≤ 190000 + 11800 * n → LI G h1 X M → fX h s.heap.size h1 → fI G.1 g_cl (fA h s.heap.size) s.heap h1 H locs → ∀ ls : Array Slot, lv_has ls 4 [(0, .ref b), (1, .ref X), (2, .ref M), (3, .int (nI (9 * n)))] → W p l e room_1 s m #[Value.ref b] below meth c H locs cs ss (lw_Z below #[Value.ref b] s) (F0 m 564 ls []) := by
  intro h1 H locs cs ss hcs hss hLI hX hI ls hl
  obtain ⟨hx, hb, hml, hown, hnm, hlk, hT, hG, hZ⟩ := id C
  have hK := hG.1
  have hsz : s.heap.size = s.heap.size := rfl
  obtain ⟨tn, tx, ne, ef, rr, rm, nf, la, fl, fk, fd, fw, fv, sL, sR, Ls, th, du, wr, rn, rl, rD, rM, L9, hr, hc, hp⟩ := hLI
  obtain ⟨mf, rg, g_M, hTx, hRd, hEm, hFf, v_13, hS0, hSh, hRt⟩ := id hr
  obtain ⟨T, E, F, D, I, R, Wr, wa, nr, lr, mm, A, fa, gq, nn, pr, pm, chs, lt, rs, hv, d, r1, r2, o1, g_X, ⟨hB, bmm⟩, hEd, hcR, hC, ⟨hD, hsh⟩, hIn, ⟨hS, hr12⟩, ⟨hCh, hnr⟩, hlr, hwr⟩ := id hc
  obtain ⟨hrep, hrm, bla, hmon, hz0⟩ := id hp
  have hKc := hK0.keepX hX
  have g_b := hKc.2.2.2
  have hn5 : n ≤ 511 := by omega
  have hoks := ed_ok hEm
  have hbd := rk_all hEm hFf
  obtain ⟨u1, hu1⟩ : ∃ z, xs (9 * n + 1) = z := ⟨_, rfl⟩
  obtain ⟨u2, hu2⟩ : ∃ z, xs (9 * n + 2) = z := ⟨_, rfl⟩
  obtain ⟨u3, hu3⟩ : ∃ z, xs (9 * n + 3) = z := ⟨_, rfl⟩
  obtain ⟨_, _, _, _, _, _, _, _, hL5, _⟩ := id hSh
  by_cases hbad : ¬ u1 = sL ∨ u2 < 0 ∨ ¬ u2 < nI Ls.length
  · have hb2 : wa = 0 ∨ ¬ lt = u1 ∨ u2 < 0 ∨ ¬ u2 < nI d.1.length := by
      rcases hsh.1 with ⟨q1, q2, _⟩ | ⟨q1, q2, q3, q4, q5⟩
      · exact Or.inl q1
      · rw [q3, q5]
        rcases hbad with q | q | q
        · exact Or.inr (Or.inl (fun z => q z.symm))
        · exact Or.inr (Or.inr (Or.inl q))
        · exact Or.inr (Or.inr (Or.inr q))
    refine lv_aload_n hx hb d_LA_law_564 rfl (lv_at hl 1 rfl) ?_
    refine lv_aload_n hx hb d_LA_law_565 rfl (lv_at hl 0 rfl) ?_
    refine lv_iload_n hx hb d_LA_law_566 rfl (lv_at hl 3 rfl) ?_
    refine lv_iconst (v := 1) hx hb d_LA_law_567 (by decide) ?_
    refine lv_iadd hx hb d_LA_law_568 ?_
    refine f_asi (nI_add (9 * n) 1) ?_
    refine f_ialdn (k := ((9 * n) + 1)) (v := u1) hx hb hI g_b hfb (by omega) (by omega) hu1 d_LA_law_569 ?_
    refine lv_aload_n hx hb d_LA_law_570 rfl (lv_at hl 0 rfl) ?_
    refine lv_iload_n hx hb d_LA_law_571 rfl (lv_at hl 3 rfl) ?_
    refine lv_iconst (v := 2) hx hb d_LA_law_572 (by decide) ?_
    refine lv_iadd hx hb d_LA_law_573 ?_
    refine f_asi (nI_add (9 * n) 2) ?_
    refine f_ialdn (k := ((9 * n) + 2)) (v := u2) hx hb hI g_b hfb (by omega) (by omega) hu2 d_LA_law_574 ?_
    refine lv_aload_n hx hb d_LA_law_575 rfl (lv_at hl 0 rfl) ?_
    refine lv_iload_n hx hb d_LA_law_576 rfl (lv_at hl 3 rfl) ?_
    refine lv_iconst (v := 3) hx hb d_LA_law_577 (by decide) ?_
    refine lv_iadd hx hb d_LA_law_578 ?_
    refine f_asi (nI_add (9 * n) 3) ?_
    refine f_ialdn (k := ((9 * n) + 3)) (v := u3) hx hb hI g_b hfb (by omega) (by omega) hu3 d_LA_law_579 ?_
    refine f_calli hI (f_runV C hI (c_DR_step_no l G h1 _ X T E F D I R Wr wa nr lr g_X u1 u2 u3 lt rs hv d hD hb2) gm_DR_step w_691 w_692 w_690 g_X rfl rfl rfl hl.1 rfl (Nat.le_of_ble_eq_true rfl) ⟨Nat.le_of_ble_eq_true rfl, Nat.le_of_ble_eq_true rfl⟩ d_LA_law_580 ⟨by show _ ≤ 600000; (try dsimp only); omega, by show _ ≤ 7302250; (try dsimp only); omega⟩) (fun r_1 h8 H9 locs hp9 hX9 hz9 hI => ?_)
    obtain ⟨rfl, e9⟩ := hp9
    rw [e9] at hI
    clear hX9 e9
    refine lv_aload_n hx hb d_LA_law_583 rfl (lv_at hl 2 rfl) ?_
    refine lv_aload_n hx hb d_LA_law_584 rfl (lv_at hl 0 rfl) ?_
    refine lv_iload_n hx hb d_LA_law_585 rfl (lv_at hl 3 rfl) ?_
    refine lv_iconst (v := 1) hx hb d_LA_law_586 (by decide) ?_
    refine lv_iadd hx hb d_LA_law_587 ?_
    refine f_asi (nI_add (9 * n) 1) ?_
    refine f_ialdn (k := ((9 * n) + 1)) (v := u1) hx hb hI g_b hfb (by omega) (by omega) hu1 d_LA_law_588 ?_
    refine lv_aload_n hx hb d_LA_law_589 rfl (lv_at hl 0 rfl) ?_
    refine lv_iload_n hx hb d_LA_law_590 rfl (lv_at hl 3 rfl) ?_
    refine lv_iconst (v := 2) hx hb d_LA_law_591 (by decide) ?_
    refine lv_iadd hx hb d_LA_law_592 ?_
    refine f_asi (nI_add (9 * n) 2) ?_
    refine f_ialdn (k := ((9 * n) + 2)) (v := u2) hx hb hI g_b hfb (by omega) (by omega) hu2 d_LA_law_593 ?_
    refine lv_aload_n hx hb d_LA_law_594 rfl (lv_at hl 0 rfl) ?_
    refine lv_iload_n hx hb d_LA_law_595 rfl (lv_at hl 3 rfl) ?_
    refine lv_iconst (v := 3) hx hb d_LA_law_596 (by decide) ?_
    refine lv_iadd hx hb d_LA_law_597 ?_
    refine f_asi (nI_add (9 * n) 3) ?_
    refine f_ialdn (k := ((9 * n) + 3)) (v := u3) hx hb hI g_b hfb (by omega) (by omega) hu3 d_LA_law_598 ?_
    refine f_calli hI (f_runV C hI (c_MO_step2_no l G h1 _ M u1 u2 u3 mf g_M sL sR Ls hSh hbad) gm_MO_step2 w_1058 w_1059 w_1057 g_M rfl rfl rfl hl.1 rfl (Nat.le_of_ble_eq_true rfl) ⟨Nat.le_of_ble_eq_true rfl, Nat.le_of_ble_eq_true rfl⟩ d_LA_law_599 ⟨by show _ ≤ 600000; (try dsimp only); omega, by show _ ≤ 7302250; (try dsimp only); omega⟩) (fun r_2 h8 H9 locs hp9 hX9 hz9 hI => ?_)
    obtain ⟨rfl, e9⟩ := hp9
    rw [e9] at hI
    clear hX9 e9
    refine lv_icmp_eq (tgt := 859) hx hb d_LA_law_602 (by decide) (fun c_3 => ?_) (fun c_3 => absurd rfl c_3)
    refine K _ _ _ _ _ (by (try dsimp only); omega) (by (try dsimp only); omega) ⟨tn, tx, ne, ef, rr, rm, nf, la, fl, fk, fd, fw, fv, sL, sR, Ls, th, du, wr, rn, rl, rD, rM, L9, hr, hc, hp⟩ hX hI ls ?_
    exact lv_sub hl [0, 1, 2, 3] rfl
  · have hq1 : u1 = sL := Classical.byContradiction (fun q => hbad (Or.inl q))
    have h2 : ¬ u2 < 0 := fun q => hbad (Or.inr (Or.inl q))
    have h3 : u2 < nI Ls.length := Classical.byContradiction (fun q => hbad (Or.inr (Or.inr q)))
    obtain ⟨j, hj, rfl⟩ := nI_of h2
    have hjl : j < Ls.length := (n_lt hj (by omega)).mp h3
    obtain ⟨q, hq⟩ : ∃ q, Ls[j]? = some q := ⟨_, List.getElem?_eq_getElem hjl⟩
    have hbq := hsh.2 q (List.mem_of_getElem? hq)
    rcases hsh.1 with ⟨q1, q2, q3⟩ | ⟨q1, q2, q3, q4, q5⟩
    · exact absurd hjl (by rw [q3]; exact Nat.not_lt_zero _)
    · have q3 := q3.symm
      subst q3
      have hq2 : d.1[j]? = some q := by rw [q5]; exact hq
      refine lv_aload_n hx hb d_LA_law_564 rfl (lv_at hl 1 rfl) ?_
      refine lv_aload_n hx hb d_LA_law_565 rfl (lv_at hl 0 rfl) ?_
      refine lv_iload_n hx hb d_LA_law_566 rfl (lv_at hl 3 rfl) ?_
      refine lv_iconst (v := 1) hx hb d_LA_law_567 (by decide) ?_
      refine lv_iadd hx hb d_LA_law_568 ?_
      refine f_asi (nI_add (9 * n) 1) ?_
      refine f_ialdn (k := ((9 * n) + 1)) (v := sL) hx hb hI g_b hfb (by omega) (by omega) (hu1.trans hq1) d_LA_law_569 ?_
      refine lv_aload_n hx hb d_LA_law_570 rfl (lv_at hl 0 rfl) ?_
      refine lv_iload_n hx hb d_LA_law_571 rfl (lv_at hl 3 rfl) ?_
      refine lv_iconst (v := 2) hx hb d_LA_law_572 (by decide) ?_
      refine lv_iadd hx hb d_LA_law_573 ?_
      refine f_asi (nI_add (9 * n) 2) ?_
      refine f_ialdn (k := ((9 * n) + 2)) (v := (nI j)) hx hb hI g_b hfb (by omega) (by omega) hu2 d_LA_law_574 ?_
      refine lv_aload_n hx hb d_LA_law_575 rfl (lv_at hl 0 rfl) ?_
      refine lv_iload_n hx hb d_LA_law_576 rfl (lv_at hl 3 rfl) ?_
      refine lv_iconst (v := 3) hx hb d_LA_law_577 (by decide) ?_
      refine lv_iadd hx hb d_LA_law_578 ?_
      refine f_asi (nI_add (9 * n) 3) ?_
      refine f_ialdn (k := ((9 * n) + 3)) (v := u3) hx hb hI g_b hfb (by omega) (by omega) hu3 d_LA_law_579 ?_
      refine f_calli hI (f_runV C hI (c_DR_step_ok l G h1 _ X T E F D I R Wr wa nr lr g_X j u3 q sL rs hv d hD (by rw [q1]; decide) hq2 hbq) gm_DR_step w_691 w_692 w_690 g_X rfl rfl rfl hl.1 rfl (Nat.le_of_ble_eq_true rfl) ⟨Nat.le_of_ble_eq_true rfl, Nat.le_of_ble_eq_true rfl⟩ d_LA_law_580 ⟨by show _ ≤ 600000; (try dsimp only); omega, by show _ ≤ 7302250; (try dsimp only); omega⟩) (fun r_4 h8 H9 locs hp9 hX9 hz9 hI => ?_)
      obtain ⟨rfl, e9⟩ := hp9
      rw [e9] at hI
      clear hX9 e9
      refine lv_aload_n hx hb d_LA_law_583 rfl (lv_at hl 2 rfl) ?_
      refine lv_aload_n hx hb d_LA_law_584 rfl (lv_at hl 0 rfl) ?_
      refine lv_iload_n hx hb d_LA_law_585 rfl (lv_at hl 3 rfl) ?_
      refine lv_iconst (v := 1) hx hb d_LA_law_586 (by decide) ?_
      refine lv_iadd hx hb d_LA_law_587 ?_
      refine f_asi (nI_add (9 * n) 1) ?_
      refine f_ialdn (k := ((9 * n) + 1)) (v := sL) hx hb hI g_b hfb (by omega) (by omega) (hu1.trans hq1) d_LA_law_588 ?_
      refine lv_aload_n hx hb d_LA_law_589 rfl (lv_at hl 0 rfl) ?_
      refine lv_iload_n hx hb d_LA_law_590 rfl (lv_at hl 3 rfl) ?_
      refine lv_iconst (v := 2) hx hb d_LA_law_591 (by decide) ?_
      refine lv_iadd hx hb d_LA_law_592 ?_
      refine f_asi (nI_add (9 * n) 2) ?_
      refine f_ialdn (k := ((9 * n) + 2)) (v := (nI j)) hx hb hI g_b hfb (by omega) (by omega) hu2 d_LA_law_593 ?_
      refine lv_aload_n hx hb d_LA_law_594 rfl (lv_at hl 0 rfl) ?_
      refine lv_iload_n hx hb d_LA_law_595 rfl (lv_at hl 3 rfl) ?_
      refine lv_iconst (v := 3) hx hb d_LA_law_596 (by decide) ?_
      refine lv_iadd hx hb d_LA_law_597 ?_
      refine f_asi (nI_add (9 * n) 3) ?_
      refine f_ialdn (k := ((9 * n) + 3)) (v := u3) hx hb hI g_b hfb (by omega) (by omega) hu3 d_LA_law_598 ?_
      refine f_calli hI (f_runV C hI (c_MO_step2_ok l G h1 _ M j u3 q mf g_M sL sR Ls hSh hq hbq) gm_MO_step2 w_1058 w_1059 w_1057 g_M rfl rfl rfl hl.1 rfl (Nat.le_of_ble_eq_true rfl) ⟨Nat.le_of_ble_eq_true rfl, Nat.le_of_ble_eq_true rfl⟩ d_LA_law_599 ⟨by show _ ≤ 600000; (try dsimp only); omega, by show _ ≤ 7302250; (try dsimp only); omega⟩) (fun r_5 h8 H9 locs hp9 hX9 hz9 hI => ?_)
      obtain ⟨rfl, e9⟩ := hp9
      rw [e9] at hI
      clear hX9 e9
      refine lv_icmp_eq (tgt := 859) hx hb d_LA_law_602 (by decide) (fun c_6 => ?_) (fun c_6 => absurd rfl c_6)
      refine K _ _ _ _ _ (by (try dsimp only); omega) (by (try dsimp only); omega) ⟨tn, tx, ne, ef, rr, rm, nf, la, fl, fk, fd, fw, fv, sL, sR, Ls, th, du, wr, rn, rl, rD, rM, L9, hr, hc, hp⟩ hX hI ls ?_
      exact lv_sub hl [0, 1, 2, 3] rfl
