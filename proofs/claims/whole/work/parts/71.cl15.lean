theorem gm_DR_difference : gM y_DR_difference b_DR_difference 10 (some .long) 2 := ⟨w_776, w_1, ⟨by decide, by decide⟩, by decide +kernel⟩
set_option maxHeartbeats 4000000 in
set_option maxRecDepth 100000 in
/-- DR_difference  -/
theorem c_DR_difference_a (l : Launch) (G : gG) (h : fH) (sz : Nat) (X T E F D I R Wr : Nat) (wa : Int32) (nr lr : Option Nat) (g_X : h X = some (1, 0, .inr (0, [.ref T, .ref E, .ref F, .ref D, .ref I, .ref R, .ref Wr, .int wa, va_rf nr, va_rf lr]))) (nn : Nat) (pr pm th du : Nat → Nat) (chs : Nat → Nat → Int64) (hCh : cCh G h nn pr pm th du chs) (hnr : nr = prv pr nn) (mo1 : Int32) (on : Int64) (eL : lst (pmP pm mo1) nn = none) : cM l y_DR_difference b_DR_difference 10 (some .long) { frames := 6, cells := 0, slots := 0, locals := 145 } G [.ref X, .int mo1, .long on] h sz (cQl G h sz (fun z h' => z = 0 ∧ h' = h)) := by
  refine f_start (by decide) (Nat.le_of_ble_eq_true rfl) ?_
  intro p e s m below meth c ls C hr hsz hI hl
  obtain ⟨hx, hb, hml, hown, hnm, hlk, hT, hG, hZ⟩ := id C
  have hK := hG.1
  have hX : fX h sz h := fX.rf
  have hl : lv_has ls 10 [(0, .ref X), (1, .int mo1), (2, .long on)] := hl
  refine lv_aload_n hx hb d_DR_difference_0 rfl (lv_at hl 0 rfl) ?_
  refine lv_iload_n hx hb d_DR_difference_1 rfl (lv_at hl 1 rfl) ?_
  refine f_callq hI (f_runV C hI (c_DR_returnOf l G h _ X T E F D I R Wr wa nr lr g_X mo1 nn pr pm th du chs hCh hnr) gm_DR_returnOf w_714 p_DR_returnOf w_712 g_X rfl rfl rfl hl.1 rfl (Nat.le_of_ble_eq_true rfl) ⟨Nat.le_of_ble_eq_true rfl, Nat.le_of_ble_eq_true rfl⟩ d_DR_difference_2 ⟨by first | exact Nat.le_of_ble_eq_true rfl | ((try dsimp only); omega), by first | exact Nat.le_of_ble_eq_true rfl | ((try dsimp only); omega)⟩) (fun r_1 h8 H9 locs hp9 hX9 hz9 hI => ?_)
  obtain ⟨rfl, e9q⟩ := hp9
  rw [e9q] at hI
  clear hX9 e9q
  rw [eL]
  show W _ _ _ _ _ _ _ _ _ _ _ _ _ _ _ (F0 m _ ls [.null])
  refine lv_astoreN (lv' := [(4, .null), (0, .ref X), (1, .int mo1), (2, .long on)]) hx hb d_DR_difference_5 hl (by decide) rfl (fun ls hl => ?_)
  refine lv_aloadN hx hb d_DR_difference_7 (lv_at hl 0 rfl) ?_
  refine lv_ifnullN (tgt := 19) hx hb d_DR_difference_9 (by decide) ?_
  refine lv_lconst (v := 0) hx hb d_DR_difference_19 (by decide) ?_
  exact f_lret C hr hI ⟨rfl, rfl⟩ hX (by (try dsimp only); omega) (by (try dsimp only); omega) d_DR_difference_20
set_option maxHeartbeats 4000000 in
set_option maxRecDepth 100000 in
/-- DR_difference  -/
theorem c_DR_difference_b (l : Launch) (G : gG) (h : fH) (sz : Nat) (X T E F D I R Wr : Nat) (wa : Int32) (nr lr : Option Nat) (g_X : h X = some (1, 0, .inr (0, [.ref T, .ref E, .ref F, .ref D, .ref I, .ref R, .ref Wr, .int wa, va_rf nr, va_rf lr]))) (nn : Nat) (pr pm th du : Nat → Nat) (chs : Nat → Nat → Int64) (hCh : cCh G h nn pr pm th du chs) (hnr : nr = prv pr nn) (mo1 : Int32) (on : Int64) (i : Nat) (eL : lst (pmP pm mo1) nn = some i) (hbad : on < 0 ∨ 100000 < on) : cM l y_DR_difference b_DR_difference 10 (some .long) { frames := 6, cells := 0, slots := 0, locals := 145 } G [.ref X, .int mo1, .long on] h sz (cQl G h sz (fun z h' => z = 0 ∧ h' = h)) := by
  refine f_start (by decide) (Nat.le_of_ble_eq_true rfl) ?_
  intro p e s m below meth c ls C hr hsz hI hl
  obtain ⟨hx, hb, hml, hown, hnm, hlk, hT, hG, hZ⟩ := id C
  have hK := hG.1
  have hX : fX h sz h := fX.rf
  have hl : lv_has ls 10 [(0, .ref X), (1, .int mo1), (2, .long on)] := hl
  refine lv_aload_n hx hb d_DR_difference_0 rfl (lv_at hl 0 rfl) ?_
  refine lv_iload_n hx hb d_DR_difference_1 rfl (lv_at hl 1 rfl) ?_
  refine f_callq hI (f_runV C hI (c_DR_returnOf l G h _ X T E F D I R Wr wa nr lr g_X mo1 nn pr pm th du chs hCh hnr) gm_DR_returnOf w_714 p_DR_returnOf w_712 g_X rfl rfl rfl hl.1 rfl (Nat.le_of_ble_eq_true rfl) ⟨Nat.le_of_ble_eq_true rfl, Nat.le_of_ble_eq_true rfl⟩ d_DR_difference_2 ⟨by first | exact Nat.le_of_ble_eq_true rfl | ((try dsimp only); omega), by first | exact Nat.le_of_ble_eq_true rfl | ((try dsimp only); omega)⟩) (fun r_1 h8 H9 locs hp9 hX9 hz9 hI => ?_)
  obtain ⟨rfl, e9q⟩ := hp9
  rw [e9q] at hI
  clear hX9 e9q
  rw [eL]
  show W _ _ _ _ _ _ _ _ _ _ _ _ _ _ _ (F0 m _ ls [.ref (pr i)])
  refine lv_astore (lv' := [(4, .ref (pr i)), (0, .ref X), (1, .int mo1), (2, .long on)]) hx hb d_DR_difference_5 hl (by decide) rfl (fun ls hl => ?_)
  refine lv_aload hx hb d_DR_difference_7 (lv_at hl 0 rfl) ?_
  refine lv_ifnull hx hb d_DR_difference_9 ?_
  refine lv_lload_n hx hb d_DR_difference_12 rfl (lv_at hl 3 rfl) ?_
  refine f_calli hI (f_runS C hI (c_DR_isDay l G h _ on) gm_DR_isDay w_547 w_546 rfl hl.1 rfl (Nat.le_of_ble_eq_true rfl) ⟨Nat.le_of_ble_eq_true rfl, Nat.le_of_ble_eq_true rfl⟩ d_DR_difference_13 ⟨by first | exact Nat.le_of_ble_eq_true rfl | ((try dsimp only); omega), by first | exact Nat.le_of_ble_eq_true rfl | ((try dsimp only); omega)⟩) (fun r_2 h8 H9 locs hp9 hX9 hz9 hI => ?_)
  obtain ⟨rfl, e9⟩ := hp9
  rw [e9] at hI
  clear hX9 e9
  refine lv_if_ne (tgt := 21) hx hb d_DR_difference_16 (by decide) (fun c_3 => absurd (day_bad hbad) c_3) (fun c_3 => ?_)
  refine lv_lconst (v := 0) hx hb d_DR_difference_19 (by decide) ?_
  exact f_lret C hr hI ⟨rfl, rfl⟩ hX (by (try dsimp only); omega) (by (try dsimp only); omega) d_DR_difference_20
set_option maxHeartbeats 4000000 in
set_option maxRecDepth 100000 in
/-- DR_difference  -/
theorem c_DR_difference_ok (l : Launch) (G : gG) (h : fH) (sz : Nat) (X T E F D I R Wr : Nat) (wa : Int32) (nr lr : Option Nat) (g_X : h X = some (1, 0, .inr (0, [.ref T, .ref E, .ref F, .ref D, .ref I, .ref R, .ref Wr, .int wa, va_rf nr, va_rf lr]))) (ne : Nat) (ef rr rm : Nat → Nat) (hEd : cEd G h E ne ef rr rm) (A : Nat) (fa : Nat → Nat) (gq : Nat → Option Nat) (nf la : Nat) (fl fk fd fw fv : Nat → Nat) (hC : cFo G h F A fa gq nf la fl fk fd fw fv) (hoks : ∀ e9, e9 < ne → okE rr rm e9) (hbd : ∀ l9 d9 o9, (rk (mK nf fl fk fd fw fv l9 d9 o9) (mE ne ef rr rm d9)).2.2.2 ≤ 2100000000000000000 ∧ (rk (mK nf fl fk fd fw fv l9 d9 o9) (mE ne ef rr rm d9)).2.2.1 ≤ 100000000) (nn : Nat) (pr pm th du : Nat → Nat) (chs : Nat → Nat → Int64) (hCh : cCh G h nn pr pm th du chs) (hnr : nr = prv pr nn) (bth : ∀ i, th i ≤ 2) (bdu : ∀ i, du i ≤ 1000000000) (hIn : cIn G h I) (mn on i : Nat) (eL : lst (pmP pm (nI mn)) nn = some i) (hpm : pm i = mn) (bm : mn ≤ 3000) (bon : on ≤ 100000) : cM l y_DR_difference b_DR_difference 10 (some .long) { frames := 6, cells := 0, slots := 0, locals := 145 } G [.ref X, .int (nI mn), .long (lN on)] h sz (cQl G h sz (fun z h' => z = sumL (fun l => if th (mn * 30 + l) = 1 then lN ((rk (mK nf fl fk fd fw fv l (30 * mn + 29) on) (mE ne ef rr rm (30 * mn + 29))).2.2.2 / CT) - lN (du (mn * 30 + l)) else 0) 30 ∧ cIn G h' I ∧ fF (inD 1) h h')) := by
  refine f_start (by decide) (Nat.le_of_ble_eq_true rfl) ?_
  intro p e s m below meth c ls C hr hsz hI hl
  obtain ⟨hx, hb, hml, hown, hnm, hlk, hT, hG, hZ⟩ := id C
  have hK := hG.1
  have hX : fX h sz h := fX.rf
  have hl : lv_has ls 10 [(0, .ref X), (1, .int (nI mn)), (2, .long (lN on))] := hl
  have hF : fF (inD 1) h h := fF.rf
  have hin9 := (lst_in eL).1
  have hZ0 := hCh.2.2 i hin9
  rw [hpm] at hZ0
  have J27 : ∀ (k n : Nat), n + k = 30 → ∀ (h1 : fH) (H : Heap) (locs : List Loc), h1 X = some (1, 0, .inr (0, [.ref T, .ref E, .ref F, .ref D, .ref I, .ref R, .ref Wr, .int wa, va_rf nr, va_rf lr])) → cIn G h1 I → fF (inD 1) h h1 → fX h sz h1 → fI G.1 g_cl (fA h sz) s.heap h1 H locs → ∀ ls : Array Slot, lv_has ls 10 [(0, .ref X), (1, .int (nI mn)), (2, .long (lN on)), (4, .ref (pr i)), (5, .long (sumL (fun l => if th (mn * 30 + l) = 1 then lN ((rk (mK nf fl fk fd fw fv l (30 * mn + 29) on) (mE ne ef rr rm (30 * mn + 29))).2.2.2 / CT) - lN (du (mn * 30 + l)) else 0) n)), (7, .int (nI n))] → W p l e { frames := 6, cells := 0, slots := 0, locals := 145 } s m ([.ref X, .int (nI mn), .long (lN on)] : List Value).toArray below meth c H locs 0 0 (MQ below (cQl G h sz (fun z h' => z = sumL (fun l => if th (mn * 30 + l) = 1 then lN ((rk (mK nf fl fk fd fw fv l (30 * mn + 29) on) (mE ne ef rr rm (30 * mn + 29))).2.2.2 / CT) - lN (du (mn * 30 + l)) else 0) 30 ∧ cIn G h' I ∧ fF (inD 1) h h')) ([.ref X, .int (nI mn), .long (lN on)] : List Value).toArray s 0 0 (fA h sz)) (F0 m 27 ls []) := by
    intro k
    induction k with
    | zero =>
      intro n hn h1 H locs g_X hIn hF hX hI ls hl
      refine lv_iload hx hb d_DR_difference_27 (lv_at hl 5 rfl) ?_
      refine lv_bipush (v := 30) hx hb d_DR_difference_29 (by decide) ?_
      refine lv_icmp_ge (tgt := 93) hx hb d_DR_difference_31 (by decide) (fun c_1 => ?_) (fun c_1 => absurd ((n_le (a := 30) (b := n) (by omega) (by omega)).mpr (by omega)) c_1)
      refine lv_lload hx hb d_DR_difference_93 (lv_at hl 4 rfl) ?_
      exact f_lret C hr hI ⟨by rw [show n = 30 by omega], hIn, hF⟩ hX (by (try dsimp only); omega) (by (try dsimp only); omega) d_DR_difference_95
    | succ k ih =>
      intro n hn h1 H locs g_X hIn hF hX hI ls hl
      have ih : ∀ n : Nat, n + k = 30 → ∀ (h1 : fH) (H : Heap) (locs : List Loc), h1 X = some (1, 0, .inr (0, [.ref T, .ref E, .ref F, .ref D, .ref I, .ref R, .ref Wr, .int wa, va_rf nr, va_rf lr])) → cIn G h1 I → fF (inD 1) h h1 → fX h sz h1 → fI G.1 g_cl (fA h sz) s.heap h1 H locs → ∀ ls : Array Slot, lv_has ls 10 [(0, .ref X), (1, .int (nI mn)), (2, .long (lN on)), (4, .ref (pr i)), (5, .long (sumL (fun l => if th (mn * 30 + l) = 1 then lN ((rk (mK nf fl fk fd fw fv l (30 * mn + 29) on) (mE ne ef rr rm (30 * mn + 29))).2.2.2 / CT) - lN (du (mn * 30 + l)) else 0) n)), (7, .int (nI n))] → W p l e { frames := 6, cells := 0, slots := 0, locals := 145 } s m ([.ref X, .int (nI mn), .long (lN on)] : List Value).toArray below meth c H locs 0 0 (MQ below (cQl G h sz (fun z h' => z = sumL (fun l => if th (mn * 30 + l) = 1 then lN ((rk (mK nf fl fk fd fw fv l (30 * mn + 29) on) (mE ne ef rr rm (30 * mn + 29))).2.2.2 / CT) - lN (du (mn * 30 + l)) else 0) 30 ∧ cIn G h' I ∧ fF (inD 1) h h')) ([.ref X, .int (nI mn), .long (lN on)] : List Value).toArray s 0 0 (fA h sz)) (F0 m 27 ls []) := ih
      have hEd9 := hEd.keepD hF
      have hC9 := hC.keepD hF
      have hZ1 := hZ0.keepF hF (fun r q1 q2 q => by have := q.2.1; omega)
      obtain ⟨b1, b2, b3, ce, g_Z, g_b1, g_b2, g_b3, hce⟩ := id hZ1
      refine lv_iload hx hb d_DR_difference_27 (lv_at hl 5 rfl) ?_
      refine lv_bipush (v := 30) hx hb d_DR_difference_29 (by decide) ?_
      refine lv_icmp_ge (tgt := 93) hx hb d_DR_difference_31 (by decide) (fun c_2 => absurd c_2 (fun q => absurd ((n_le (a := 30) (b := n) (by omega) (by omega)).mp q) (by omega))) (fun c_2 => ?_)
      refine lv_aload hx hb d_DR_difference_34 (lv_at hl 3 rfl) ?_
      refine lv_iload hx hb d_DR_difference_36 (lv_at hl 5 rfl) ?_
      refine f_calli hI (f_runV C hI (c_RE_isSettled l G h1 _ (pr i) i mn (prv pr i) th du (chs i) hZ1 bth bdu n (by omega)) gm_RE_isSettled w_757 w_758 w_777 g_Z rfl rfl rfl hl.1 rfl (Nat.le_of_ble_eq_true rfl) ⟨Nat.le_of_ble_eq_true rfl, Nat.le_of_ble_eq_true rfl⟩ d_DR_difference_38 ⟨by first | exact Nat.le_of_ble_eq_true rfl | ((try dsimp only); omega), by first | exact Nat.le_of_ble_eq_true rfl | ((try dsimp only); omega)⟩) (fun r_3 h8 H9 locs hp9 hX9 hz9 hI => ?_)
      obtain ⟨rfl, e9⟩ := hp9
      rw [e9] at hI
      clear hX9 e9
      by_cases hs1 : th (mn * 30 + n) = 1
      · refine f_asi (if_pos hs1) ?_
        refine lv_if_eq (tgt := 87) hx hb d_DR_difference_41 (by decide) (fun c_4 => absurd c_4 (by decide)) (fun c_4 => ?_)
        refine lv_aload_n hx hb d_DR_difference_44 rfl (lv_at hl 0 rfl) ?_
        refine lv_iload hx hb d_DR_difference_45 (lv_at hl 5 rfl) ?_
        refine lv_iload_n hx hb d_DR_difference_47 rfl (lv_at hl 1 rfl) ?_
        refine f_calli hI (f_runS C hI (c_DR_lastDayOf l G h1 _ (nI mn)) gm_DR_lastDayOf w_705 w_704 rfl hl.1 rfl (Nat.le_of_ble_eq_true rfl) ⟨Nat.le_of_ble_eq_true rfl, Nat.le_of_ble_eq_true rfl⟩ d_DR_difference_48 ⟨by first | exact Nat.le_of_ble_eq_true rfl | ((try dsimp only); omega), by first | exact Nat.le_of_ble_eq_true rfl | ((try dsimp only); omega)⟩) (fun r_5 h8 H9 locs hp9 hX9 hz9 hI => ?_)
        obtain ⟨rfl, e9⟩ := hp9
        rw [e9] at hI
        clear hX9 e9
        refine f_asi (ld_n bm) ?_
        refine lv_lload_n hx hb d_DR_difference_51 rfl (lv_at hl 2 rfl) ?_
        refine lv_l2i (v := nI on) hx hb d_DR_difference_52 (n_l2i _) ?_
        have hzA := hI.2.2.2.1
        refine f_calll hI (f_runV C hI (c_DR_centsOf l G h1 _ X T E F D I R Wr wa nr lr g_X ne ef rr rm hEd9 A fa gq nf la fl fk fd fw fv hC9 hoks hbd hIn n (30 * mn + 29) on (by omega) (by omega) bon) gm_DR_centsOf w_749 p_DR_centsOf w_747 g_X rfl rfl rfl hl.1 rfl (Nat.le_of_ble_eq_true rfl) ⟨Nat.le_of_ble_eq_true rfl, Nat.le_of_ble_eq_true rfl⟩ d_DR_difference_53 ⟨by first | exact Nat.le_of_ble_eq_true rfl | ((try dsimp only); omega), by first | exact Nat.le_of_ble_eq_true rfl | ((try dsimp only); omega)⟩) (fun r_6 h9 H9 locs hp9 hX9 hz9 hI => ?_)
        obtain ⟨rfl, hIn, hF9⟩ := hp9
        have hX := fX.tr (Nat.le_trans (Nat.le_of_eq hsz.symm) hzA) hX hX9
        have g_X := hF9 _ _ _ _ g_X (fun q => by have := q.1; omega)
        have hF := hF.tr hF9
        have hZ1 := hZ0.keepF hF (fun r q1 q2 q => by have := q.2.1; omega)
        obtain ⟨b1, b2, b3, ce, g_Z, g_b1, g_b2, g_b3, hce⟩ := id hZ1
        by_cases hk1 : (rk (mK nf fl fk fd fw fv n (30 * mn + 29) on) (mE ne ef rr rm (30 * mn + 29))).1 = -1
        · rw [if_pos hk1]
          have hb9 := q_ct (hbd n (30 * mn + 29) on).1
          refine lv_lstore (lv' := [(8, .long (lN ((rk (mK nf fl fk fd fw fv n (30 * mn + 29) on) (mE ne ef rr rm (30 * mn + 29))).2.2.2 / CT))), (0, .ref X), (1, .int (nI mn)), (2, .long (lN on)), (4, .ref (pr i)), (5, .long (sumL (fun l => if th (mn * 30 + l) = 1 then lN ((rk (mK nf fl fk fd fw fv l (30 * mn + 29) on) (mE ne ef rr rm (30 * mn + 29))).2.2.2 / CT) - lN (du (mn * 30 + l)) else 0) n)), (7, .int (nI n))]) hx hb d_DR_difference_56 hl (by decide) rfl (fun ls hl => ?_)
          refine lv_lload hx hb d_DR_difference_58 (lv_at hl 5 rfl) ?_
          refine lv_lload hx hb d_DR_difference_60 (lv_at hl 0 rfl) ?_
          refine lv_ldc2 (v := (-9223372036854775808)) hx hb hown (hT _ w_621) d_DR_difference_62 ?_
          refine f_lc_ne (tgt := 73) hx hb d_DR_difference_65 d_DR_difference_66 (by decide) (fun c_7 => ?_) (fun c_7 => absurd c_7 (lN_ne hb9))
          refine lv_lload hx hb d_DR_difference_73 (lv_at hl 0 rfl) ?_
          refine lv_aload hx hb d_DR_difference_75 (lv_at hl 4 rfl) ?_
          refine f_getN (C := "DutyRules$Return") (T := T_RE) (N := 5) hx hb (fun w q => hT w (s_RE w q)) hown hK hI g_Z rfl 3 (by decide) (hG.2.1 _ w_728) (fun _ q => q) rfl d_DR_difference_77 ?_
          refine lv_iload hx hb d_DR_difference_80 (lv_at hl 6 rfl) ?_
          refine f_laldn (k := n) (v := (lN (du (mn * 30 + n)))) hx hb hI g_b2 (fT.ofK hK (t0 := 1) rfl) (by omega) (by omega) ((hce n (by omega) (by rw [hs1]; decide)).trans (if_pos hs1)) d_DR_difference_82 ?_
          refine lv_lsub hx hb d_DR_difference_83 ?_
          refine lv_ladd hx hb d_DR_difference_84 ?_
          refine lv_lstore (lv' := [(5, .long ((sumL (fun l => if th (mn * 30 + l) = 1 then lN ((rk (mK nf fl fk fd fw fv l (30 * mn + 29) on) (mE ne ef rr rm (30 * mn + 29))).2.2.2 / CT) - lN (du (mn * 30 + l)) else 0) n) + ((lN ((rk (mK nf fl fk fd fw fv n (30 * mn + 29) on) (mE ne ef rr rm (30 * mn + 29))).2.2.2 / CT)) - (lN (du (mn * 30 + n)))))), (8, .long (lN ((rk (mK nf fl fk fd fw fv n (30 * mn + 29) on) (mE ne ef rr rm (30 * mn + 29))).2.2.2 / CT))), (0, .ref X), (1, .int (nI mn)), (2, .long (lN on)), (4, .ref (pr i)), (7, .int (nI n))]) hx hb d_DR_difference_85 hl (by decide) rfl (fun ls hl => ?_)
          refine lv_iinc (v := nI (n + 1)) (lv' := [(7, .int (nI (n + 1))), (5, .long ((sumL (fun l => if th (mn * 30 + l) = 1 then lN ((rk (mK nf fl fk fd fw fv l (30 * mn + 29) on) (mE ne ef rr rm (30 * mn + 29))).2.2.2 / CT) - lN (du (mn * 30 + l)) else 0) n) + ((lN ((rk (mK nf fl fk fd fw fv n (30 * mn + 29) on) (mE ne ef rr rm (30 * mn + 29))).2.2.2 / CT)) - (lN (du (mn * 30 + n)))))), (8, .long (lN ((rk (mK nf fl fk fd fw fv n (30 * mn + 29) on) (mE ne ef rr rm (30 * mn + 29))).2.2.2 / CT))), (0, .ref X), (1, .int (nI mn)), (2, .long (lN on)), (4, .ref (pr i))]) hx hb d_DR_difference_87 hl (k := 6) rfl (f_inc1 _) (by decide) rfl (fun ls hl => ?_)
          refine lv_goto (tgt := 27) hx hb d_DR_difference_90 (by decide) ?_
          refine ih (n + 1) (by omega) _ _ _ g_X hIn hF hX hI ls ?_
          rw [show sumL (fun l => if th (mn * 30 + l) = 1 then lN ((rk (mK nf fl fk fd fw fv l (30 * mn + 29) on) (mE ne ef rr rm (30 * mn + 29))).2.2.2 / CT) - lN (du (mn * 30 + l)) else 0) (n + 1) = sumL (fun l => if th (mn * 30 + l) = 1 then lN ((rk (mK nf fl fk fd fw fv l (30 * mn + 29) on) (mE ne ef rr rm (30 * mn + 29))).2.2.2 / CT) - lN (du (mn * 30 + l)) else 0) n + (lN ((rk (mK nf fl fk fd fw fv n (30 * mn + 29) on) (mE ne ef rr rm (30 * mn + 29))).2.2.2 / CT) - lN (du (mn * 30 + n))) by show sumL (fun l => if th (mn * 30 + l) = 1 then lN ((rk (mK nf fl fk fd fw fv l (30 * mn + 29) on) (mE ne ef rr rm (30 * mn + 29))).2.2.2 / CT) - lN (du (mn * 30 + l)) else 0) n + (if _ then _ else _) = _; rw [if_pos hs1]]
          exact lv_sub hl [3, 4, 5, 6, 1, 0] rfl
        · rw [if_neg hk1]
          have hd0 := rk_open hk1
          refine lv_lstore (lv' := [(8, .long (-9223372036854775808)), (0, .ref X), (1, .int (nI mn)), (2, .long (lN on)), (4, .ref (pr i)), (5, .long (sumL (fun l => if th (mn * 30 + l) = 1 then lN ((rk (mK nf fl fk fd fw fv l (30 * mn + 29) on) (mE ne ef rr rm (30 * mn + 29))).2.2.2 / CT) - lN (du (mn * 30 + l)) else 0) n)), (7, .int (nI n))]) hx hb d_DR_difference_56 hl (by decide) rfl (fun ls hl => ?_)
          refine lv_lload hx hb d_DR_difference_58 (lv_at hl 5 rfl) ?_
          refine lv_lload hx hb d_DR_difference_60 (lv_at hl 0 rfl) ?_
          refine lv_ldc2 (v := (-9223372036854775808)) hx hb hown (hT _ w_621) d_DR_difference_62 ?_
          refine f_lc_ne (tgt := 73) hx hb d_DR_difference_65 d_DR_difference_66 (by decide) (fun c_8 => absurd rfl c_8) (fun c_8 => ?_)
          refine lv_lconst (v := 0) hx hb d_DR_difference_69 (by decide) ?_
          refine lv_goto (tgt := 75) hx hb d_DR_difference_70 (by decide) ?_
          refine lv_aload hx hb d_DR_difference_75 (lv_at hl 4 rfl) ?_
          refine f_getN (C := "DutyRules$Return") (T := T_RE) (N := 5) hx hb (fun w q => hT w (s_RE w q)) hown hK hI g_Z rfl 3 (by decide) (hG.2.1 _ w_728) (fun _ q => q) rfl d_DR_difference_77 ?_
          refine lv_iload hx hb d_DR_difference_80 (lv_at hl 6 rfl) ?_
          refine f_laldn (k := n) (v := (lN (du (mn * 30 + n)))) hx hb hI g_b2 (fT.ofK hK (t0 := 1) rfl) (by omega) (by omega) ((hce n (by omega) (by rw [hs1]; decide)).trans (if_pos hs1)) d_DR_difference_82 ?_
          refine lv_lsub hx hb d_DR_difference_83 ?_
          refine lv_ladd hx hb d_DR_difference_84 ?_
          refine lv_lstore (lv' := [(5, .long ((sumL (fun l => if th (mn * 30 + l) = 1 then lN ((rk (mK nf fl fk fd fw fv l (30 * mn + 29) on) (mE ne ef rr rm (30 * mn + 29))).2.2.2 / CT) - lN (du (mn * 30 + l)) else 0) n) + (0 - (lN (du (mn * 30 + n)))))), (8, .long (-9223372036854775808)), (0, .ref X), (1, .int (nI mn)), (2, .long (lN on)), (4, .ref (pr i)), (7, .int (nI n))]) hx hb d_DR_difference_85 hl (by decide) rfl (fun ls hl => ?_)
          refine lv_iinc (v := nI (n + 1)) (lv' := [(7, .int (nI (n + 1))), (5, .long ((sumL (fun l => if th (mn * 30 + l) = 1 then lN ((rk (mK nf fl fk fd fw fv l (30 * mn + 29) on) (mE ne ef rr rm (30 * mn + 29))).2.2.2 / CT) - lN (du (mn * 30 + l)) else 0) n) + (0 - (lN (du (mn * 30 + n)))))), (8, .long (-9223372036854775808)), (0, .ref X), (1, .int (nI mn)), (2, .long (lN on)), (4, .ref (pr i))]) hx hb d_DR_difference_87 hl (k := 6) rfl (f_inc1 _) (by decide) rfl (fun ls hl => ?_)
          refine lv_goto (tgt := 27) hx hb d_DR_difference_90 (by decide) ?_
          refine ih (n + 1) (by omega) _ _ _ g_X hIn hF hX hI ls ?_
          rw [show sumL (fun l => if th (mn * 30 + l) = 1 then lN ((rk (mK nf fl fk fd fw fv l (30 * mn + 29) on) (mE ne ef rr rm (30 * mn + 29))).2.2.2 / CT) - lN (du (mn * 30 + l)) else 0) (n + 1) = sumL (fun l => if th (mn * 30 + l) = 1 then lN ((rk (mK nf fl fk fd fw fv l (30 * mn + 29) on) (mE ne ef rr rm (30 * mn + 29))).2.2.2 / CT) - lN (du (mn * 30 + l)) else 0) n + (0 - lN (du (mn * 30 + n))) by show sumL (fun l => if th (mn * 30 + l) = 1 then lN ((rk (mK nf fl fk fd fw fv l (30 * mn + 29) on) (mE ne ef rr rm (30 * mn + 29))).2.2.2 / CT) - lN (du (mn * 30 + l)) else 0) n + (if _ then _ else _) = _; rw [if_pos hs1]; rw [hd0]; rfl]
          exact lv_sub hl [3, 4, 5, 6, 1, 0] rfl
      · refine f_asi (if_neg hs1) ?_
        refine lv_if_eq (tgt := 87) hx hb d_DR_difference_41 (by decide) (fun c_9 => ?_) (fun c_9 => absurd (by decide) c_9)
        refine lv_iinc (v := nI (n + 1)) (lv' := [(7, .int (nI (n + 1))), (0, .ref X), (1, .int (nI mn)), (2, .long (lN on)), (4, .ref (pr i)), (5, .long (sumL (fun l => if th (mn * 30 + l) = 1 then lN ((rk (mK nf fl fk fd fw fv l (30 * mn + 29) on) (mE ne ef rr rm (30 * mn + 29))).2.2.2 / CT) - lN (du (mn * 30 + l)) else 0) n))]) hx hb d_DR_difference_87 hl (k := 5) rfl (f_inc1 _) (by decide) rfl (fun ls hl => ?_)
        refine lv_goto (tgt := 27) hx hb d_DR_difference_90 (by decide) ?_
        refine ih (n + 1) (by omega) _ _ _ g_X hIn hF hX hI ls ?_
        rw [show sumL (fun l => if th (mn * 30 + l) = 1 then lN ((rk (mK nf fl fk fd fw fv l (30 * mn + 29) on) (mE ne ef rr rm (30 * mn + 29))).2.2.2 / CT) - lN (du (mn * 30 + l)) else 0) (n + 1) = sumL (fun l => if th (mn * 30 + l) = 1 then lN ((rk (mK nf fl fk fd fw fv l (30 * mn + 29) on) (mE ne ef rr rm (30 * mn + 29))).2.2.2 / CT) - lN (du (mn * 30 + l)) else 0) n by show sumL (fun l => if th (mn * 30 + l) = 1 then lN ((rk (mK nf fl fk fd fw fv l (30 * mn + 29) on) (mE ne ef rr rm (30 * mn + 29))).2.2.2 / CT) - lN (du (mn * 30 + l)) else 0) n + (if _ then _ else _) = _; rw [if_neg hs1, Int64.add_zero]]
        exact lv_sub hl [1, 2, 3, 4, 5, 0] rfl
  refine lv_aload_n hx hb d_DR_difference_0 rfl (lv_at hl 0 rfl) ?_
  refine lv_iload_n hx hb d_DR_difference_1 rfl (lv_at hl 1 rfl) ?_
  refine f_callq hI (f_runV C hI (c_DR_returnOf l G h _ X T E F D I R Wr wa nr lr g_X (nI mn) nn pr pm th du chs hCh hnr) gm_DR_returnOf w_714 p_DR_returnOf w_712 g_X rfl rfl rfl hl.1 rfl (Nat.le_of_ble_eq_true rfl) ⟨Nat.le_of_ble_eq_true rfl, Nat.le_of_ble_eq_true rfl⟩ d_DR_difference_2 ⟨by first | exact Nat.le_of_ble_eq_true rfl | ((try dsimp only); omega), by first | exact Nat.le_of_ble_eq_true rfl | ((try dsimp only); omega)⟩) (fun r_10 h8 H9 locs hp9 hX9 hz9 hI => ?_)
  obtain ⟨rfl, e9q⟩ := hp9
  rw [e9q] at hI
  clear hX9 e9q
  rw [eL]
  show W _ _ _ _ _ _ _ _ _ _ _ _ _ _ _ (F0 m _ ls [.ref (pr i)])
  refine lv_astore (lv' := [(4, .ref (pr i)), (0, .ref X), (1, .int (nI mn)), (2, .long (lN on))]) hx hb d_DR_difference_5 hl (by decide) rfl (fun ls hl => ?_)
  refine lv_aload hx hb d_DR_difference_7 (lv_at hl 0 rfl) ?_
  refine lv_ifnull hx hb d_DR_difference_9 ?_
  refine lv_lload_n hx hb d_DR_difference_12 rfl (lv_at hl 3 rfl) ?_
  refine f_calli hI (f_runS C hI (c_DR_isDay l G h _ (lN on)) gm_DR_isDay w_547 w_546 rfl hl.1 rfl (Nat.le_of_ble_eq_true rfl) ⟨Nat.le_of_ble_eq_true rfl, Nat.le_of_ble_eq_true rfl⟩ d_DR_difference_13 ⟨by first | exact Nat.le_of_ble_eq_true rfl | ((try dsimp only); omega), by first | exact Nat.le_of_ble_eq_true rfl | ((try dsimp only); omega)⟩) (fun r_11 h8 H9 locs hp9 hX9 hz9 hI => ?_)
  obtain ⟨rfl, e9⟩ := hp9
  rw [e9] at hI
  clear hX9 e9
  refine f_asi (day_1 (by omega)) ?_
  refine lv_if_ne (tgt := 21) hx hb d_DR_difference_16 (by decide) (fun c_12 => ?_) (fun c_12 => absurd c_12 (by decide))
  refine lv_lconst (v := 0) hx hb d_DR_difference_21 (by decide) ?_
  refine lv_lstore (lv' := [(5, .long 0), (4, .ref (pr i)), (0, .ref X), (1, .int (nI mn)), (2, .long (lN on))]) hx hb d_DR_difference_22 hl (by decide) rfl (fun ls hl => ?_)
  refine lv_iconst (v := 0) hx hb d_DR_difference_24 (by decide) ?_
  refine lv_istore (lv' := [(7, .int 0), (5, .long 0), (4, .ref (pr i)), (0, .ref X), (1, .int (nI mn)), (2, .long (lN on))]) hx hb d_DR_difference_25 hl (by decide) rfl (fun ls hl => ?_)
  refine J27 30 0 (by omega) _ _ _ g_X hIn hF hX hI ls ?_
  exact lv_sub hl [3, 4, 5, 2, 1, 0] rfl
theorem gm_DR_interest : gM y_DR_interest b_DR_interest 9 (some .long) 3 := ⟨w_787, w_1, ⟨by decide, by decide⟩, by decide +kernel⟩
set_option maxHeartbeats 4000000 in
set_option maxRecDepth 100000 in
/-- DR_interest  -/
theorem c_DR_interest_a (l : Launch) (G : gG) (h : fH) (sz : Nat) (X T E F D I R Wr : Nat) (wa : Int32) (nr lr : Option Nat) (g_X : h X = some (1, 0, .inr (0, [.ref T, .ref E, .ref F, .ref D, .ref I, .ref R, .ref Wr, .int wa, va_rf nr, va_rf lr]))) (nn : Nat) (pr pm th du : Nat → Nat) (chs : Nat → Nat → Int64) (hCh : cCh G h nn pr pm th du chs) (hnr : nr = prv pr nn) (mo1 : Int32) (dy : Int64) (pt : Int32) (eL : lst (pmP pm mo1) nn = none) : cM l y_DR_interest b_DR_interest 9 (some .long) { frames := 3, cells := 0, slots := 0, locals := 64 } G [.ref X, .int mo1, .long dy, .int pt] h sz (cQl G h sz (fun z h' => z = (-9223372036854775808) ∧ h' = h)) := by
  refine f_start (by decide) (Nat.le_of_ble_eq_true rfl) ?_
  intro p e s m below meth c ls C hr hsz hI hl
  obtain ⟨hx, hb, hml, hown, hnm, hlk, hT, hG, hZ⟩ := id C
  have hK := hG.1
  have hX : fX h sz h := fX.rf
  have hl : lv_has ls 9 [(0, .ref X), (1, .int mo1), (2, .long dy), (4, .int pt)] := hl
  refine lv_aload_n hx hb d_DR_interest_0 rfl (lv_at hl 0 rfl) ?_
  refine lv_iload_n hx hb d_DR_interest_1 rfl (lv_at hl 1 rfl) ?_
  refine f_callq hI (f_runV C hI (c_DR_returnOf l G h _ X T E F D I R Wr wa nr lr g_X mo1 nn pr pm th du chs hCh hnr) gm_DR_returnOf w_714 p_DR_returnOf w_712 g_X rfl rfl rfl hl.1 rfl (Nat.le_of_ble_eq_true rfl) ⟨Nat.le_of_ble_eq_true rfl, Nat.le_of_ble_eq_true rfl⟩ d_DR_interest_2 ⟨by first | exact Nat.le_of_ble_eq_true rfl | ((try dsimp only); omega), by first | exact Nat.le_of_ble_eq_true rfl | ((try dsimp only); omega)⟩) (fun r_1 h8 H9 locs hp9 hX9 hz9 hI => ?_)
  obtain ⟨rfl, e9q⟩ := hp9
  rw [e9q] at hI
  clear hX9 e9q
  rw [eL]
  show W _ _ _ _ _ _ _ _ _ _ _ _ _ _ _ (F0 m _ ls [.null])
  refine lv_astoreN (lv' := [(5, .null), (0, .ref X), (1, .int mo1), (2, .long dy), (4, .int pt)]) hx hb d_DR_interest_5 hl (by decide) rfl (fun ls hl => ?_)
  refine lv_aloadN hx hb d_DR_interest_7 (lv_at hl 0 rfl) ?_
  refine lv_ifnullN (tgt := 27) hx hb d_DR_interest_9 (by decide) ?_
  refine lv_ldc2 (v := (-9223372036854775808)) hx hb hown (hT _ w_621) d_DR_interest_27 ?_
  exact f_lret C hr hI ⟨rfl, rfl⟩ hX (by (try dsimp only); omega) (by (try dsimp only); omega) d_DR_interest_30
set_option maxHeartbeats 4000000 in
set_option maxRecDepth 100000 in
/-- DR_interest  -/
theorem c_DR_interest_b (l : Launch) (G : gG) (h : fH) (sz : Nat) (X T E F D I R Wr : Nat) (wa : Int32) (nr lr : Option Nat) (g_X : h X = some (1, 0, .inr (0, [.ref T, .ref E, .ref F, .ref D, .ref I, .ref R, .ref Wr, .int wa, va_rf nr, va_rf lr]))) (nn : Nat) (pr pm th du : Nat → Nat) (chs : Nat → Nat → Int64) (hCh : cCh G h nn pr pm th du chs) (hnr : nr = prv pr nn) (mo1 : Int32) (dy : Int64) (pt : Int32) (i : Nat) (eL : lst (pmP pm mo1) nn = some i) (hbad : (dy < 0 ∨ 100000 < dy) ∨ pt < 0 ∨ ¬ pt ≤ 1) : cM l y_DR_interest b_DR_interest 9 (some .long) { frames := 3, cells := 0, slots := 0, locals := 64 } G [.ref X, .int mo1, .long dy, .int pt] h sz (cQl G h sz (fun z h' => z = (-9223372036854775808) ∧ h' = h)) := by
  refine f_start (by decide) (Nat.le_of_ble_eq_true rfl) ?_
  intro p e s m below meth c ls C hr hsz hI hl
  obtain ⟨hx, hb, hml, hown, hnm, hlk, hT, hG, hZ⟩ := id C
  have hK := hG.1
  have hX : fX h sz h := fX.rf
  have hl : lv_has ls 9 [(0, .ref X), (1, .int mo1), (2, .long dy), (4, .int pt)] := hl
  refine lv_aload_n hx hb d_DR_interest_0 rfl (lv_at hl 0 rfl) ?_
  refine lv_iload_n hx hb d_DR_interest_1 rfl (lv_at hl 1 rfl) ?_
  refine f_callq hI (f_runV C hI (c_DR_returnOf l G h _ X T E F D I R Wr wa nr lr g_X mo1 nn pr pm th du chs hCh hnr) gm_DR_returnOf w_714 p_DR_returnOf w_712 g_X rfl rfl rfl hl.1 rfl (Nat.le_of_ble_eq_true rfl) ⟨Nat.le_of_ble_eq_true rfl, Nat.le_of_ble_eq_true rfl⟩ d_DR_interest_2 ⟨by first | exact Nat.le_of_ble_eq_true rfl | ((try dsimp only); omega), by first | exact Nat.le_of_ble_eq_true rfl | ((try dsimp only); omega)⟩) (fun r_1 h8 H9 locs hp9 hX9 hz9 hI => ?_)
  obtain ⟨rfl, e9q⟩ := hp9
  rw [e9q] at hI
  clear hX9 e9q
  rw [eL]
  show W _ _ _ _ _ _ _ _ _ _ _ _ _ _ _ (F0 m _ ls [.ref (pr i)])
  refine lv_astore (lv' := [(5, .ref (pr i)), (0, .ref X), (1, .int mo1), (2, .long dy), (4, .int pt)]) hx hb d_DR_interest_5 hl (by decide) rfl (fun ls hl => ?_)
  refine lv_aload hx hb d_DR_interest_7 (lv_at hl 0 rfl) ?_
  refine lv_ifnull hx hb d_DR_interest_9 ?_
  refine lv_lload_n hx hb d_DR_interest_12 rfl (lv_at hl 3 rfl) ?_
  refine f_calli hI (f_runS C hI (c_DR_isDay l G h _ dy) gm_DR_isDay w_547 w_546 rfl hl.1 rfl (Nat.le_of_ble_eq_true rfl) ⟨Nat.le_of_ble_eq_true rfl, Nat.le_of_ble_eq_true rfl⟩ d_DR_interest_13 ⟨by first | exact Nat.le_of_ble_eq_true rfl | ((try dsimp only); omega), by first | exact Nat.le_of_ble_eq_true rfl | ((try dsimp only); omega)⟩) (fun r_2 h8 H9 locs hp9 hX9 hz9 hI => ?_)
  obtain ⟨rfl, e9⟩ := hp9
  rw [e9] at hI
  clear hX9 e9
  refine lv_if_eq (tgt := 27) hx hb d_DR_interest_16 (by decide) (fun c_3 => ?_) (fun c_3 => ?_)
  · skip
    refine lv_ldc2 (v := (-9223372036854775808)) hx hb hown (hT _ w_621) d_DR_interest_27 ?_
    exact f_lret C hr hI ⟨rfl, rfl⟩ hX (by (try dsimp only); omega) (by (try dsimp only); omega) d_DR_interest_30
  · skip
    refine lv_iload hx hb d_DR_interest_19 (lv_at hl 4 rfl) ?_
    refine f_calli hI (f_runS C hI (c_DR_isPart l G h _ pt) gm_DR_isPart w_619 w_618 rfl hl.1 rfl (Nat.le_of_ble_eq_true rfl) ⟨Nat.le_of_ble_eq_true rfl, Nat.le_of_ble_eq_true rfl⟩ d_DR_interest_21 ⟨by first | exact Nat.le_of_ble_eq_true rfl | ((try dsimp only); omega), by first | exact Nat.le_of_ble_eq_true rfl | ((try dsimp only); omega)⟩) (fun r_4 h8 H9 locs hp9 hX9 hz9 hI => ?_)
    obtain ⟨rfl, e9⟩ := hp9
    rw [e9] at hI
    clear hX9 e9
    refine lv_if_ne (tgt := 31) hx hb d_DR_interest_24 (by decide) (fun c_5 => ?_) (fun c_5 => ?_)
    · skip
      exfalso
      rcases hbad with q | q | q
      · exact day_no c_3 q
      · exact c_5 (par_bad (Or.inl q))
      · exact c_5 (par_bad (Or.inr q))
    · skip
      refine lv_ldc2 (v := (-9223372036854775808)) hx hb hown (hT _ w_621) d_DR_interest_27 ?_
      exact f_lret C hr hI ⟨rfl, rfl⟩ hX (by (try dsimp only); omega) (by (try dsimp only); omega) d_DR_interest_30
set_option maxHeartbeats 4000000 in
set_option maxRecDepth 100000 in
/-- DR_interest  -/
theorem c_DR_interest_ok (l : Launch) (G : gG) (h : fH) (sz : Nat) (X T E F D I R Wr : Nat) (wa : Int32) (nr lr : Option Nat) (g_X : h X = some (1, 0, .inr (0, [.ref T, .ref E, .ref F, .ref D, .ref I, .ref R, .ref Wr, .int wa, va_rf nr, va_rf lr]))) (nn : Nat) (pr pm th du : Nat → Nat) (chs : Nat → Nat → Int64) (hCh : cCh G h nn pr pm th du chs) (hnr : nr = prv pr nn) (ne : Nat) (ef rr rm : Nat → Nat) (hEd : cEd G h E ne ef rr rm) (hoks : ∀ e9, e9 < ne → okE rr rm e9) (hlate : ∀ d9, lateH ne ef rr rm d9 ≤ 100) (bth : ∀ i, th i ≤ 2) (bdu : ∀ i, du i ≤ 1000000000) (mn d i : Nat) (pt : Int32) (eL : lst (pmP pm (nI mn)) nn = some i) (hpm : pm i = mn) (bm : mn ≤ 3000) (bd : d ≤ 100000) (hp1 : ¬ pt < 0) (hp2 : pt ≤ 1) : cM l y_DR_interest b_DR_interest 9 (some .long) { frames := 3, cells := 0, slots := 0, locals := 64 } G [.ref X, .int (nI mn), .long (lN d), .int pt] h sz (cQl G h sz (fun z h' => z = frA (sumN (duN th du mn) 30 * lateH ne ef rr rm (30 * mn + 29) * (d - (30 * mn + 29))) 100 pt ∧ h' = h)) := by
  refine f_start (by decide) (Nat.le_of_ble_eq_true rfl) ?_
  intro p e s m below meth c ls C hr hsz hI hl
  obtain ⟨hx, hb, hml, hown, hnm, hlk, hT, hG, hZ⟩ := id C
  have hK := hG.1
  have hX : fX h sz h := fX.rf
  have hl : lv_has ls 9 [(0, .ref X), (1, .int (nI mn)), (2, .long (lN d)), (4, .int pt)] := hl
  have hpt := par_01 hp1 hp2
  have hin9 := (lst_in eL).1
  have hZ1 := hCh.2.2 i hin9
  rw [hpm] at hZ1
  obtain ⟨b1, b2, b3, ce, g_Z, _⟩ := id hZ1
  have hs9 := sumN_le (duN_le (th := th) bdu mn) 30
  have hl9 := hlate (30 * mn + 29)
  have hm1 : sumN (duN th du mn) 30 * lateH ne ef rr rm (30 * mn + 29) ≤ 30000000000 * 100 := mulle (by omega) hl9
  have hm2 : sumN (duN th du mn) 30 * lateH ne ef rr rm (30 * mn + 29) * (d - (30 * mn + 29)) ≤ 30000000000 * 100 * 100000 := mulle hm1 (by omega)
  refine lv_aload_n hx hb d_DR_interest_0 rfl (lv_at hl 0 rfl) ?_
  refine lv_iload_n hx hb d_DR_interest_1 rfl (lv_at hl 1 rfl) ?_
  refine f_callq hI (f_runV C hI (c_DR_returnOf l G h _ X T E F D I R Wr wa nr lr g_X (nI mn) nn pr pm th du chs hCh hnr) gm_DR_returnOf w_714 p_DR_returnOf w_712 g_X rfl rfl rfl hl.1 rfl (Nat.le_of_ble_eq_true rfl) ⟨Nat.le_of_ble_eq_true rfl, Nat.le_of_ble_eq_true rfl⟩ d_DR_interest_2 ⟨by first | exact Nat.le_of_ble_eq_true rfl | ((try dsimp only); omega), by first | exact Nat.le_of_ble_eq_true rfl | ((try dsimp only); omega)⟩) (fun r_1 h8 H9 locs hp9 hX9 hz9 hI => ?_)
  obtain ⟨rfl, e9q⟩ := hp9
  rw [e9q] at hI
  clear hX9 e9q
  rw [eL]
  show W _ _ _ _ _ _ _ _ _ _ _ _ _ _ _ (F0 m _ ls [.ref (pr i)])
  refine lv_astore (lv' := [(5, .ref (pr i)), (0, .ref X), (1, .int (nI mn)), (2, .long (lN d)), (4, .int pt)]) hx hb d_DR_interest_5 hl (by decide) rfl (fun ls hl => ?_)
  refine lv_aload hx hb d_DR_interest_7 (lv_at hl 0 rfl) ?_
  refine lv_ifnull hx hb d_DR_interest_9 ?_
  refine lv_lload_n hx hb d_DR_interest_12 rfl (lv_at hl 3 rfl) ?_
  refine f_calli hI (f_runS C hI (c_DR_isDay l G h _ (lN d)) gm_DR_isDay w_547 w_546 rfl hl.1 rfl (Nat.le_of_ble_eq_true rfl) ⟨Nat.le_of_ble_eq_true rfl, Nat.le_of_ble_eq_true rfl⟩ d_DR_interest_13 ⟨by first | exact Nat.le_of_ble_eq_true rfl | ((try dsimp only); omega), by first | exact Nat.le_of_ble_eq_true rfl | ((try dsimp only); omega)⟩) (fun r_2 h8 H9 locs hp9 hX9 hz9 hI => ?_)
  obtain ⟨rfl, e9⟩ := hp9
  rw [e9] at hI
  clear hX9 e9
  refine f_asi (day_1 (by omega)) ?_
  refine lv_if_eq (tgt := 27) hx hb d_DR_interest_16 (by decide) (fun c_3 => absurd c_3 (by decide)) (fun c_3 => ?_)
  refine lv_iload hx hb d_DR_interest_19 (lv_at hl 4 rfl) ?_
  refine f_calli hI (f_runS C hI (c_DR_isPart l G h _ pt) gm_DR_isPart w_619 w_618 rfl hl.1 rfl (Nat.le_of_ble_eq_true rfl) ⟨Nat.le_of_ble_eq_true rfl, Nat.le_of_ble_eq_true rfl⟩ d_DR_interest_21 ⟨by first | exact Nat.le_of_ble_eq_true rfl | ((try dsimp only); omega), by first | exact Nat.le_of_ble_eq_true rfl | ((try dsimp only); omega)⟩) (fun r_4 h8 H9 locs hp9 hX9 hz9 hI => ?_)
  obtain ⟨rfl, e9⟩ := hp9
  rw [e9] at hI
  clear hX9 e9
  refine f_asi (par_ok hpt) ?_
  refine lv_if_ne (tgt := 31) hx hb d_DR_interest_24 (by decide) (fun c_5 => ?_) (fun c_5 => absurd c_5 (by decide))
  refine lv_iload_n hx hb d_DR_interest_31 rfl (lv_at hl 2 rfl) ?_
  refine f_calli hI (f_runS C hI (c_DR_lastDayOf l G h _ (nI mn)) gm_DR_lastDayOf w_705 w_704 rfl hl.1 rfl (Nat.le_of_ble_eq_true rfl) ⟨Nat.le_of_ble_eq_true rfl, Nat.le_of_ble_eq_true rfl⟩ d_DR_interest_32 ⟨by first | exact Nat.le_of_ble_eq_true rfl | ((try dsimp only); omega), by first | exact Nat.le_of_ble_eq_true rfl | ((try dsimp only); omega)⟩) (fun r_6 h8 H9 locs hp9 hX9 hz9 hI => ?_)
  obtain ⟨rfl, e9⟩ := hp9
  rw [e9] at hI
  clear hX9 e9
  refine f_asi (ld_n bm) ?_
  refine lv_istore (lv' := [(6, .int (nI (30 * mn + 29))), (5, .ref (pr i)), (0, .ref X), (1, .int (nI mn)), (2, .long (lN d)), (4, .int pt)]) hx hb d_DR_interest_35 hl (by decide) rfl (fun ls hl => ?_)
  refine lv_lload_n hx hb d_DR_interest_37 rfl (lv_at hl 4 rfl) ?_
  refine lv_iload hx hb d_DR_interest_38 (lv_at hl 0 rfl) ?_
  refine lv_i2l (v := lN (30 * mn + 29)) hx hb d_DR_interest_40 (n_i2l (by omega)) ?_
  refine lv_lsub hx hb d_DR_interest_41 ?_
  refine lv_lconst (v := 0) hx hb d_DR_interest_42 (by decide) ?_
  refine va_mmax_long hx hb (hml.trans hl.1.symm) hown (hT _ w_788) (hT _ w_789) (hT _ w_12) (hT _ w_790) (Nat.le_of_ble_eq_true rfl) (Nat.le_of_ble_eq_true rfl) (by first | exact Nat.le_of_ble_eq_true rfl | ((try dsimp only); omega)) (by first | exact Nat.le_of_ble_eq_true rfl | ((try dsimp only); omega)) d_DR_interest_43 ?_
  refine f_asl (mxl (d := d) (n := 30 * mn + 29) (by omega) (by omega)) ?_
  refine lv_lstore (lv' := [(7, .long (lN (d - (30 * mn + 29)))), (6, .int (nI (30 * mn + 29))), (5, .ref (pr i)), (0, .ref X), (1, .int (nI mn)), (2, .long (lN d)), (4, .int pt)]) hx hb d_DR_interest_46 hl (by decide) rfl (fun ls hl => ?_)
  refine lv_aload hx hb d_DR_interest_48 (lv_at hl 2 rfl) ?_
  refine f_calll hI (f_runV C hI (c_RE_settledSum l G h _ (pr i) i mn (prv pr i) th du (chs i) hZ1 bth bdu) gm_RE_settledSum w_792 w_793 w_791 g_Z rfl rfl rfl hl.1 rfl (Nat.le_of_ble_eq_true rfl) ⟨Nat.le_of_ble_eq_true rfl, Nat.le_of_ble_eq_true rfl⟩ d_DR_interest_50 ⟨by first | exact Nat.le_of_ble_eq_true rfl | ((try dsimp only); omega), by first | exact Nat.le_of_ble_eq_true rfl | ((try dsimp only); omega)⟩) (fun r_7 h8 H9 locs hp9 hX9 hz9 hI => ?_)
  obtain ⟨rfl, e9⟩ := hp9
  rw [e9] at hI
  clear hX9 e9
  refine lv_aload_n hx hb d_DR_interest_53 rfl (lv_at hl 3 rfl) ?_
  refine lv_iload hx hb d_DR_interest_54 (lv_at hl 1 rfl) ?_
  refine f_calll hI (f_runV C hI (c_DR_lateShare l G h _ X T E F D I R Wr wa nr lr g_X ne ef rr rm hEd hoks (30 * mn + 29) (by omega)) gm_DR_lateShare w_797 p_DR_lateShare w_795 g_X rfl rfl rfl hl.1 rfl (Nat.le_of_ble_eq_true rfl) ⟨Nat.le_of_ble_eq_true rfl, Nat.le_of_ble_eq_true rfl⟩ d_DR_interest_56 ⟨by first | exact Nat.le_of_ble_eq_true rfl | ((try dsimp only); omega), by first | exact Nat.le_of_ble_eq_true rfl | ((try dsimp only); omega)⟩) (fun r_8 h8 H9 locs hp9 hX9 hz9 hI => ?_)
  obtain ⟨rfl, e9⟩ := hp9
  rw [e9] at hI
  clear hX9 e9
  refine lv_lmul hx hb d_DR_interest_59 ?_
  refine f_asl (lN_mul (sumN (duN th du mn) 30) (lateH ne ef rr rm (30 * mn + 29))) ?_
  refine lv_lload hx hb d_DR_interest_60 (lv_at hl 0 rfl) ?_
  refine lv_lmul hx hb d_DR_interest_62 ?_
  refine f_asl (lN_mul ((sumN (duN th du mn) 30) * (lateH ne ef rr rm (30 * mn + 29))) (d - (30 * mn + 29))) ?_
  refine lv_ldc2 (v := 100) hx hb hown (hT _ w_564) d_DR_interest_63 ?_
  refine lv_iload hx hb d_DR_interest_66 (lv_at hl 6 rfl) ?_
  refine f_calll hI (f_runS C hI (c_DR_reduced l G h _ (sumN (duN th du mn) 30 * lateH ne ef rr rm (30 * mn + 29) * (d - (30 * mn + 29))) 100 pt (by omega) (by decide) (by decide)) gm_DR_reduced w_681 w_680 rfl hl.1 rfl (Nat.le_of_ble_eq_true rfl) ⟨Nat.le_of_ble_eq_true rfl, Nat.le_of_ble_eq_true rfl⟩ d_DR_interest_68 ⟨by first | exact Nat.le_of_ble_eq_true rfl | ((try dsimp only); omega), by first | exact Nat.le_of_ble_eq_true rfl | ((try dsimp only); omega)⟩) (fun r_9 h8 H9 locs hp9 hX9 hz9 hI => ?_)
  obtain ⟨rfl, e9⟩ := hp9
  rw [e9] at hI
  clear hX9 e9
  exact f_lret C hr hI ⟨rfl, rfl⟩ hX (by (try dsimp only); omega) (by (try dsimp only); omega) d_DR_interest_71
theorem gm_DR_row : gM y_DR_row b_DR_row 4 (some .long) 2 := ⟨w_768, w_1, ⟨by decide, by decide⟩, by decide +kernel⟩
set_option maxHeartbeats 4000000 in
set_option maxRecDepth 100000 in
/-- DR_row  -/
theorem c_DR_row_a (l : Launch) (G : gG) (h : fH) (sz : Nat) (X T E F D I R Wr : Nat) (wa : Int32) (nr : Option Nat) (g_X : h X = some (1, 0, .inr (0, [.ref T, .ref E, .ref F, .ref D, .ref I, .ref R, .ref Wr, .int wa, va_rf nr, .null]))) (k1 wh : Int32) : cM l y_DR_row b_DR_row 4 (some .long) { frames := 1, cells := 0, slots := 0, locals := 23 } G [.ref X, .int k1, .int wh] h sz (cQl G h sz (fun z h' => z = -1 ∧ h' = h)) := by
  refine f_start (by decide) (Nat.le_of_ble_eq_true rfl) ?_
  intro p e s m below meth c ls C hr hsz hI hl
  obtain ⟨hx, hb, hml, hown, hnm, hlk, hT, hG, hZ⟩ := id C
  have hK := hG.1
  have hX : fX h sz h := fX.rf
  have hl : lv_has ls 4 [(0, .ref X), (1, .int k1), (2, .int wh)] := hl
  refine lv_aload_n hx hb d_DR_row_0 rfl (lv_at hl 0 rfl) ?_
  refine f_get (C := "DutyRules") (T := T_DR) (N := 10) hx hb (fun w q => hT w (s_DR w q)) hown hK hI g_X rfl 9 (by decide) (hT _ w_172) (fun _ q => q) rfl d_DR_row_1 ?_
  refine lv_ifnonnullN hx hb d_DR_row_4 ?_
  refine lv_ldc2 (v := (-1)) hx hb hown (hT _ w_703) d_DR_row_7 ?_
  exact f_lret C hr hI ⟨rfl, rfl⟩ hX (by (try dsimp only); omega) (by (try dsimp only); omega) d_DR_row_10
set_option maxHeartbeats 4000000 in
set_option maxRecDepth 100000 in
/-- DR_row  -/
theorem c_DR_row_ok (l : Launch) (G : gG) (h : fH) (sz : Nat) (X Z T E F D I R Wr : Nat) (wa : Int32) (nr : Option Nat) (g_X : h X = some (1, 0, .inr (0, [.ref T, .ref E, .ref F, .ref D, .ref I, .ref R, .ref Wr, .int wa, va_rf nr, .ref Z]))) (k1 wh : Int32) (ow mn : Nat) (bo : Option Nat) (th du : Nat → Nat) (ch : Nat → Int64) (hZ1 : cRt G h Z ow mn bo th du ch) (bth : ∀ i, th i ≤ 2) (bdu : ∀ i, du i ≤ 1000000000) : cM l y_DR_row b_DR_row 4 (some .long) { frames := 1, cells := 0, slots := 0, locals := 23 } G [.ref X, .int k1, .int wh] h sz (cQl G h sz (fun z h' => z = (match ff (fun i => decide (hz th mn i = 1 ∧ nI (cnt th mn i) = k1)) 0 30 with | none => -1 | some lo => if wh = 0 then lN lo else (if wh = 1 then (if th (mn * 30 + lo) = 1 then lN (du (mn * 30 + lo)) else (-9223372036854775808)) else (if wh = 2 then ch lo else -1))) ∧ h' = h)) := by
  refine f_start (by decide) (Nat.le_of_ble_eq_true rfl) ?_
  intro p e s m below meth c ls C hr hsz hI hl
  obtain ⟨hx, hb, hml, hown, hnm, hlk, hT, hG, hZ⟩ := id C
  have hK := hG.1
  have hX : fX h sz h := fX.rf
  have hl : lv_has ls 4 [(0, .ref X), (1, .int k1), (2, .int wh)] := hl
  obtain ⟨b1, b2, b3, ce, g_Z, g_b1, g_b2, g_b3, hce⟩ := id hZ1
  rcases eF : ff (fun i => decide (hz th mn i = 1 ∧ nI (cnt th mn i) = k1)) 0 30 with _ | lo
  · skip
    refine lv_aload_n hx hb d_DR_row_0 rfl (lv_at hl 0 rfl) ?_
    refine f_get (C := "DutyRules") (T := T_DR) (N := 10) hx hb (fun w q => hT w (s_DR w q)) hown hK hI g_X rfl 9 (by decide) (hT _ w_172) (fun _ q => q) rfl d_DR_row_1 ?_
    refine lv_ifnonnull (tgt := 11) hx hb d_DR_row_4 (by decide) ?_
    refine lv_aload_n hx hb d_DR_row_11 rfl (lv_at hl 0 rfl) ?_
    refine f_get (C := "DutyRules") (T := T_DR) (N := 10) hx hb (fun w q => hT w (s_DR w q)) hown hK hI g_X rfl 9 (by decide) (hT _ w_172) (fun _ q => q) rfl d_DR_row_12 ?_
    refine lv_iload_n hx hb d_DR_row_15 rfl (lv_at hl 1 rfl) ?_
    refine f_calli hI (f_runV C hI (c_RE_lotOfRow l G h _ Z ow mn bo th du ch hZ1 bth bdu k1) gm_RE_lotOfRow w_770 w_771 w_769 g_Z rfl rfl rfl hl.1 rfl (Nat.le_of_ble_eq_true rfl) ⟨Nat.le_of_ble_eq_true rfl, Nat.le_of_ble_eq_true rfl⟩ d_DR_row_16 ⟨by first | exact Nat.le_of_ble_eq_true rfl | ((try dsimp only); omega), by first | exact Nat.le_of_ble_eq_true rfl | ((try dsimp only); omega)⟩) (fun r_1 h8 H9 locs hp9 hX9 hz9 hI => ?_)
    obtain ⟨rfl, e9⟩ := hp9
    rw [e9] at hI
    clear hX9 e9
    rw [eF]
    refine lv_istore_n (lv' := [(3, .int (-1)), (0, .ref X), (1, .int k1), (2, .int wh)]) hx hb d_DR_row_19 rfl hl (by decide) rfl (fun ls hl => ?_)
    refine lv_iload_n hx hb d_DR_row_20 rfl (lv_at hl 0 rfl) ?_
    refine lv_iconst (v := (-1)) hx hb d_DR_row_21 (by decide) ?_
    refine lv_icmp_ne (tgt := 29) hx hb d_DR_row_22 (by decide) (fun c_2 => absurd rfl c_2) (fun c_2 => ?_)
    refine lv_ldc2 (v := (-1)) hx hb hown (hT _ w_703) d_DR_row_25 ?_
    exact f_lret C hr hI ⟨rfl, rfl⟩ hX (by (try dsimp only); omega) (by (try dsimp only); omega) d_DR_row_28
  · obtain ⟨-, hf2, hf3⟩ := ff_in eF
    simp only [decide_eq_true_eq] at hf3
    obtain ⟨hf3, hf4⟩ := hf3
    refine lv_aload_n hx hb d_DR_row_0 rfl (lv_at hl 0 rfl) ?_
    refine f_get (C := "DutyRules") (T := T_DR) (N := 10) hx hb (fun w q => hT w (s_DR w q)) hown hK hI g_X rfl 9 (by decide) (hT _ w_172) (fun _ q => q) rfl d_DR_row_1 ?_
    refine lv_ifnonnull (tgt := 11) hx hb d_DR_row_4 (by decide) ?_
    refine lv_aload_n hx hb d_DR_row_11 rfl (lv_at hl 0 rfl) ?_
    refine f_get (C := "DutyRules") (T := T_DR) (N := 10) hx hb (fun w q => hT w (s_DR w q)) hown hK hI g_X rfl 9 (by decide) (hT _ w_172) (fun _ q => q) rfl d_DR_row_12 ?_
    refine lv_iload_n hx hb d_DR_row_15 rfl (lv_at hl 1 rfl) ?_
    refine f_calli hI (f_runV C hI (c_RE_lotOfRow l G h _ Z ow mn bo th du ch hZ1 bth bdu k1) gm_RE_lotOfRow w_770 w_771 w_769 g_Z rfl rfl rfl hl.1 rfl (Nat.le_of_ble_eq_true rfl) ⟨Nat.le_of_ble_eq_true rfl, Nat.le_of_ble_eq_true rfl⟩ d_DR_row_16 ⟨by first | exact Nat.le_of_ble_eq_true rfl | ((try dsimp only); omega), by first | exact Nat.le_of_ble_eq_true rfl | ((try dsimp only); omega)⟩) (fun r_3 h8 H9 locs hp9 hX9 hz9 hI => ?_)
    obtain ⟨rfl, e9⟩ := hp9
    rw [e9] at hI
    clear hX9 e9
    rw [eF]
    refine lv_istore_n (lv' := [(3, .int (nI lo)), (0, .ref X), (1, .int k1), (2, .int wh)]) hx hb d_DR_row_19 rfl hl (by decide) rfl (fun ls hl => ?_)
    refine lv_iload_n hx hb d_DR_row_20 rfl (lv_at hl 0 rfl) ?_
    refine lv_iconst (v := (-1)) hx hb d_DR_row_21 (by decide) ?_
    refine lv_icmp_ne (tgt := 29) hx hb d_DR_row_22 (by decide) (fun c_4 => ?_) (fun c_4 => absurd c_4 (n_m1 (by omega)))
    refine lv_iload_n hx hb d_DR_row_29 rfl (lv_at hl 3 rfl) ?_
    rcases (show wh.toInt = 0 ∨ wh.toInt = 1 ∨ wh.toInt = 2 ∨ (wh.toInt < 0 ∨ 2 < wh.toInt) by omega) with e_5 | e_5 | e_5 | e_5
    · refine lv_tableIn (off := 26) (tgt := 56) hx hb d_DR_row_30 (by rw [e_5]; decide) (by rw [e_5]; decide) (by rw [e_5]; decide) (by decide) ?_
      refine lv_iload_n hx hb d_DR_row_56 rfl (lv_at hl 0 rfl) ?_
      refine lv_i2l (v := lN lo) hx hb d_DR_row_57 (n_i2l (by omega)) ?_
      exact f_lret C hr hI ⟨by dsimp only; rw [if_pos (show wh = 0 from Int32.toInt_inj.mp (by rw [e_5]; rfl))], rfl⟩ hX (Nat.le_refl _) (Nat.le_refl _) d_DR_row_58
    · refine lv_tableIn (off := 29) (tgt := 59) hx hb d_DR_row_30 (by rw [e_5]; decide) (by rw [e_5]; decide) (by rw [e_5]; decide) (by decide) ?_
      refine lv_aload_n hx hb d_DR_row_59 rfl (lv_at hl 1 rfl) ?_
      refine f_get (C := "DutyRules") (T := T_DR) (N := 10) hx hb (fun w q => hT w (s_DR w q)) hown hK hI g_X rfl 9 (by decide) (hT _ w_172) (fun _ q => q) rfl d_DR_row_60 ?_
      refine f_getN (C := "DutyRules$Return") (T := T_RE) (N := 5) hx hb (fun w q => hT w (s_RE w q)) hown hK hI g_Z rfl 3 (by decide) (hG.2.1 _ w_728) (fun _ q => q) rfl d_DR_row_63 ?_
      refine lv_iload_n hx hb d_DR_row_66 rfl (lv_at hl 0 rfl) ?_
      refine f_laldn (k := lo) (v := (if th (mn * 30 + lo) = 1 then lN (du (mn * 30 + lo)) else (-9223372036854775808))) hx hb hI g_b2 (fT.ofK hK (t0 := 1) rfl) (by omega) (by omega) (hce lo (by omega) (fun q => by have := hz_0 (mn := mn) (i := lo) q; rw [hf3] at this; revert this; decide)) d_DR_row_67 ?_
      exact f_lret C hr hI ⟨by dsimp only; rw [if_neg (show ¬ wh = 0 from fun q => by rw [q] at e_5; revert e_5; decide), if_pos (show wh = 1 from Int32.toInt_inj.mp (by rw [e_5]; rfl))], rfl⟩ hX (Nat.le_refl _) (Nat.le_refl _) d_DR_row_68
    · refine lv_tableIn (off := 39) (tgt := 69) hx hb d_DR_row_30 (by rw [e_5]; decide) (by rw [e_5]; decide) (by rw [e_5]; decide) (by decide) ?_
      refine lv_aload_n hx hb d_DR_row_69 rfl (lv_at hl 1 rfl) ?_
      refine f_get (C := "DutyRules") (T := T_DR) (N := 10) hx hb (fun w q => hT w (s_DR w q)) hown hK hI g_X rfl 9 (by decide) (hT _ w_172) (fun _ q => q) rfl d_DR_row_70 ?_
      refine f_getN (C := "DutyRules$Return") (T := T_RE) (N := 5) hx hb (fun w q => hT w (s_RE w q)) hown hK hI g_Z rfl 4 (by decide) (hG.2.1 _ w_730) (fun _ q => q) rfl d_DR_row_73 ?_
      refine lv_iload_n hx hb d_DR_row_76 rfl (lv_at hl 0 rfl) ?_
      refine f_laldn (k := lo) (v := (ch lo)) hx hb hI g_b3 (fT.ofK hK (t0 := 1) rfl) (by omega) (by omega) rfl d_DR_row_77 ?_
      exact f_lret C hr hI ⟨by dsimp only; rw [if_neg (show ¬ wh = 0 from fun q => by rw [q] at e_5; revert e_5; decide), if_neg (show ¬ wh = 1 from fun q => by rw [q] at e_5; revert e_5; decide), if_pos (show wh = 2 from Int32.toInt_inj.mp (by rw [e_5]; rfl))], rfl⟩ hX (Nat.le_refl _) (Nat.le_refl _) d_DR_row_78
    · refine lv_tableOut (tgt := 79) hx hb d_DR_row_30 e_5 (by decide) ?_
      refine lv_ldc2 (v := (-1)) hx hb hown (hT _ w_703) d_DR_row_79 ?_
      exact f_lret C hr hI ⟨by dsimp only; rw [if_neg (show ¬ wh = 0 from fun q => by rw [q] at e_5; revert e_5; decide), if_neg (show ¬ wh = 1 from fun q => by rw [q] at e_5; revert e_5; decide), if_neg (show ¬ wh = 2 from fun q => by rw [q] at e_5; revert e_5; decide)], rfl⟩ hX (Nat.le_refl _) (Nat.le_refl _) d_DR_row_82
