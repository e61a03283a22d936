theorem gm_DR_returned : gM y_DR_returned b_DR_returned 6 (some .int) 1 := ⟨w_711, w_1, ⟨by decide, by decide⟩, by decide +kernel⟩
set_option maxHeartbeats 4000000 in
set_option maxRecDepth 100000 in
/-- DR_returned  -/
theorem c_DR_returned_no (l : Launch) (G : gG) (h : fH) (sz : Nat) (X T E F D I R Wr : Nat) (wa : Int32) (nr lr : Option Nat) (g_X : h X = some (1, 0, .inr (0, [.ref T, .ref E, .ref F, .ref D, .ref I, .ref R, .ref Wr, .int wa, va_rf nr, va_rf lr]))) (mo1 : Int32) (hbad : mo1 < 0 ∨ 3001 ≤ mo1) : cM l y_DR_returned b_DR_returned 6 (some .int) { frames := 6, cells := 4, slots := 95, locals := 145 } G [.ref X, .int mo1] h sz (cQi G h sz (fun z h' => z = -1 ∧ h' = h)) := by
  refine f_start (by decide) (Nat.le_of_ble_eq_true rfl) ?_
  intro p e s m below meth c ls C hr hsz hI hl
  obtain ⟨hx, hb, hml, hown, hnm, hlk, hT, hG, hZ⟩ := id C
  have hK := hG.1
  have hX : fX h sz h := fX.rf
  have hl : lv_has ls 6 [(0, .ref X), (1, .int mo1)] := hl
  refine lv_iload_n hx hb d_DR_returned_0 rfl (lv_at hl 1 rfl) ?_
  refine f_calli hI (f_runS C hI (c_DR_isMonth l G h _ mo1) gm_DR_isMonth w_701 w_700 rfl hl.1 rfl (Nat.le_of_ble_eq_true rfl) ⟨Nat.le_of_ble_eq_true rfl, Nat.le_of_ble_eq_true rfl⟩ d_DR_returned_1 ⟨by first | exact Nat.le_of_ble_eq_true rfl | ((try dsimp only); omega), by first | exact Nat.le_of_ble_eq_true rfl | ((try dsimp only); omega)⟩) (fun r_1 h8 H9 locs hp9 hX9 hz9 hI => ?_)
  obtain ⟨rfl, e9⟩ := hp9
  rw [e9] at hI
  clear hX9 e9
  refine f_asi (mon_bad hbad) ?_
  refine lv_if_ne (tgt := 9) hx hb d_DR_returned_4 (by decide) (fun c_2 => absurd (by decide) c_2) (fun c_2 => ?_)
  refine lv_iconst (v := (-1)) hx hb d_DR_returned_7 (by decide) ?_
  exact f_iret C hr hI ⟨rfl, rfl⟩ hX (by (try dsimp only); omega) (by (try dsimp only); omega) d_DR_returned_8
set_option maxHeartbeats 4000000 in
set_option maxRecDepth 100000 in
/-- DR_returned  -/
theorem c_DR_returned_ok (l : Launch) (G : gG) (h : fH) (sz : Nat) (X T E F D I R Wr : Nat) (wa : Int32) (nr lr : Option Nat) (g_X : h X = some (1, 0, .inr (0, [.ref T, .ref E, .ref F, .ref D, .ref I, .ref R, .ref Wr, .int wa, va_rf nr, va_rf lr]))) (ne : Nat) (ef rr rm : Nat → Nat) (hEd : cEd G h E ne ef rr rm) (A : Nat) (fa : Nat → Nat) (gq : Nat → Option Nat) (nf la : Nat) (fl fk fd fw fv : Nat → Nat) (hC : cFo G h F A fa gq nf la fl fk fd fw fv) (hoks : ∀ e9, e9 < ne → okE rr rm e9) (hbd : ∀ l9 d9 o9, (rk (mK nf fl fk fd fw fv l9 d9 o9) (mE ne ef rr rm d9)).2.2.2 ≤ 2100000000000000000 ∧ (rk (mK nf fl fk fd fw fv l9 d9 o9) (mE ne ef rr rm d9)).2.2.1 ≤ 100000000) (nn : Nat) (pr pm th du : Nat → Nat) (chs : Nat → Nat → Int64) (hCh : cCh G h nn pr pm th du chs) (hnr : nr = prv pr nn) (bth : ∀ i, th i ≤ 2) (bdu : ∀ i, du i ≤ 1000000000) (hIn : cIn G h I) (mn : Nat) (bm : mn ≤ 3000) (rl : Nat → Nat) (rD rM : Nat → Int64) (hz0 : lst (pmP pm (nI mn)) nn = none → ∀ l, l < 30 → th (mn * 30 + l) = 0) (hmon : ∀ l, l < 30 → ¬ th (mn * 30 + l) = 0 → hLt fl fk fd l mn nf = true) : cM l y_DR_returned b_DR_returned 6 (some .int) { frames := 6, cells := 4, slots := 95, locals := 145 } G [.ref X, .int (nI mn)] h sz (cQi G h sz (fun z h' => ∃ (th2 du2 : Nat → Nat) (rn2 : Nat) (rl2 : Nat → Nat) (rD2 rM2 : Nat → Int64) (nn2 : Nat) (pr2 pm2 : Nat → Nat) (chs2 : Nat → Nat → Int64) (i2 : Nat), rtS (fun l => hLt fl fk fd l mn nf) (fun l => decide ((rk (mK nf fl fk fd fw fv l (30 * mn + 29) la) (mE ne ef rr rm (30 * mn + 29))).1 = -1)) (fun l => (rk (mK nf fl fk fd fw fv l (30 * mn + 29) la) (mE ne ef rr rm (30 * mn + 29))).2.2.2 / CT) mn (th, du, 0, rl, rD, rM) 30 = (th2, du2, rn2, rl2, rD2, rM2) ∧ z = nI rn2 ∧ h' X = some (1, 0, .inr (0, [.ref T, .ref E, .ref F, .ref D, .ref I, .ref R, .ref Wr, .int wa, va_rf (prv pr2 nn2), .ref (pr2 i2)])) ∧ i2 < nn2 ∧ pm2 i2 = mn ∧ cCh G h' nn2 pr2 pm2 th2 du2 chs2 ∧ RowI th2 du2 (chs2 i2) rn2 rl2 rD2 rM2 mn 30 ∧ ((nn2 = nn ∧ pm2 = pm) ∨ (nn2 = nn + 1 ∧ pm2 = va_up pm nn mn)) ∧ cIn G h' I ∧ fF inRt h h')) := by
  refine f_start (by decide) (Nat.le_of_ble_eq_true rfl) ?_
  intro p e s m below meth c ls C hr hsz hI hl
  obtain ⟨hx, hb, hml, hown, hnm, hlk, hT, hG, hZ⟩ := id C
  have hK := hG.1
  have hX : fX h sz h := fX.rf
  have hl : lv_has ls 6 [(0, .ref X), (1, .int (nI mn))] := hl
  have hF : fF inRt h h := fun _ _ _ _ ha _ => ha
  have bla : la ≤ 100000 := hC.2.2.2.2.2.1
  have J51 : ∀ (nn9 : Nat) (pr9 pm9 : Nat → Nat) (i : Nat) (nr9 : Option Nat), i < nn9 → pm9 i = mn → nr9 = prv pr9 nn9 → ((nn9 = nn ∧ pm9 = pm) ∨ (nn9 = nn + 1 ∧ pm9 = va_up pm nn mn)) → ∀ (k n : Nat), n + k = 30 → ∀ (th1 du1 : Nat → Nat) (rn1 : Nat) (rl1 : Nat → Nat) (rD1 rM1 : Nat → Int64) (chs1 : Nat → Nat → Int64), rtS (fun l => hLt fl fk fd l mn nf) (fun l => decide ((rk (mK nf fl fk fd fw fv l (30 * mn + 29) la) (mE ne ef rr rm (30 * mn + 29))).1 = -1)) (fun l => (rk (mK nf fl fk fd fw fv l (30 * mn + 29) la) (mE ne ef rr rm (30 * mn + 29))).2.2.2 / CT) mn (th, du, 0, rl, rD, rM) n = (th1, du1, rn1, rl1, rD1, rM1) → RowI th1 du1 (chs1 i) rn1 rl1 rD1 rM1 mn n → (∀ l, n ≤ l → l < 30 → th1 (mn * 30 + l) = th (mn * 30 + l)) → (∀ k, th1 k ≤ 2) → (∀ k, du1 k ≤ 1000000000) → ∀ (h1 : fH) (H : Heap) (locs : List Loc) (cs ss : Nat), cs ≤ 4 → ss ≤ 95 → h1 X = some (1, 0, .inr (0, [.ref T, .ref E, .ref F, .ref D, .ref I, .ref R, .ref Wr, .int wa, va_rf nr9, va_rf lr])) → cEd G h1 E ne ef rr rm → cFo G h1 F A fa gq nf la fl fk fd fw fv → cIn G h1 I → cCh G h1 nn9 pr9 pm9 th1 du1 chs1 → fF inRt h h1 → fX h sz h1 → fI G.1 g_cl (fA h sz) s.heap h1 H locs → ∀ ls : Array Slot, lv_has ls 6 [(0, .ref X), (1, .int (nI mn)), (2, .ref (pr9 i)), (3, .int (nI (30 * mn))), (4, .int (nI (30 * mn + 29))), (5, .int (nI n))] → W p l e { frames := 6, cells := 4, slots := 95, locals := 145 } s m ([.ref X, .int (nI mn)] : List Value).toArray below meth c H locs cs ss (MQ below (cQi G h sz (fun z h' => ∃ (th2 du2 : Nat → Nat) (rn2 : Nat) (rl2 : Nat → Nat) (rD2 rM2 : Nat → Int64) (nn2 : Nat) (pr2 pm2 : Nat → Nat) (chs2 : Nat → Nat → Int64) (i2 : Nat), rtS (fun l => hLt fl fk fd l mn nf) (fun l => decide ((rk (mK nf fl fk fd fw fv l (30 * mn + 29) la) (mE ne ef rr rm (30 * mn + 29))).1 = -1)) (fun l => (rk (mK nf fl fk fd fw fv l (30 * mn + 29) la) (mE ne ef rr rm (30 * mn + 29))).2.2.2 / CT) mn (th, du, 0, rl, rD, rM) 30 = (th2, du2, rn2, rl2, rD2, rM2) ∧ z = nI rn2 ∧ h' X = some (1, 0, .inr (0, [.ref T, .ref E, .ref F, .ref D, .ref I, .ref R, .ref Wr, .int wa, va_rf (prv pr2 nn2), .ref (pr2 i2)])) ∧ i2 < nn2 ∧ pm2 i2 = mn ∧ cCh G h' nn2 pr2 pm2 th2 du2 chs2 ∧ RowI th2 du2 (chs2 i2) rn2 rl2 rD2 rM2 mn 30 ∧ ((nn2 = nn ∧ pm2 = pm) ∨ (nn2 = nn + 1 ∧ pm2 = va_up pm nn mn)) ∧ cIn G h' I ∧ fF inRt h h')) ([.ref X, .int (nI mn)] : List Value).toArray s 4 95 (fA h sz)) (F0 m 51 ls []) := by
    intro nn9 pr9 pm9 i nr9 hi9 hpm9 hnr9 hor9 k
    induction k with
    | zero =>
      intro n hn th1 du1 rn1 rl1 rD1 rM1 chs1 hrs hrow hun bth1 bdu1 h1 H locs cs ss hcs hss g_X hEd hC hIn hCh hF hX hI ls hl
      have hZ1 := hCh.2.2 i hi9
      rw [hpm9] at hZ1
      obtain ⟨b1, b2, b3, ce, g_Z, _⟩ := id hZ1
      obtain ⟨g_F, _⟩ := id hC
      have hn2 : n = 30 := by omega
      subst hn2
      refine lv_iload hx hb d_DR_returned_51 (lv_at hl 5 rfl) ?_
      refine lv_bipush (v := 30) hx hb d_DR_returned_53 (by decide) ?_
      refine lv_icmp_ge (tgt := 100) hx hb d_DR_returned_55 (by decide) (fun c_1 => ?_) (fun c_1 => absurd ((n_le (a := 30) (b := 30) (by omega) (by omega)).mpr (by omega)) c_1)
      refine lv_aload_n hx hb d_DR_returned_100 rfl (lv_at hl 0 rfl) ?_
      refine lv_aload_n hx hb d_DR_returned_101 rfl (lv_at hl 2 rfl) ?_
      refine f_put (C := "DutyRules") (T := T_DR) (N := 10) (fs' := [.ref T, .ref E, .ref F, .ref D, .ref I, .ref R, .ref Wr, .int wa, va_rf nr9, .ref (pr9 i)]) (v := .ref (pr9 i)) hx hb (fun w q => hT w (s_DR w q)) t_DR k_DR n_DR hown hK hI g_X (by decide) rfl 9 (by decide) (hT _ w_172) (fun _ q => q) rfl rfl rfl (Nat.le_of_ble_eq_true rfl) rfl d_DR_returned_102 (fun H locs hI => ?_)
      generalize eh_2 : fU h1 X (1, 0, .inr (0, [.ref T, .ref E, .ref F, .ref D, .ref I, .ref R, .ref Wr, .int wa, va_rf nr9, .ref (pr9 i)])) = h_2 at hI
      have hX := hX.set (e := .inr (0, [.ref T, .ref E, .ref F, .ref D, .ref I, .ref R, .ref Wr, .int wa, va_rf nr9, .ref (pr9 i)])) g_X (by decide); rw [eh_2] at hX
      have hF := hF.set (e := .inr (0, [.ref T, .ref E, .ref F, .ref D, .ref I, .ref R, .ref Wr, .int wa, va_rf nr9, .ref (pr9 i)])) g_X (Or.inl rfl); rw [eh_2] at hF
      have g_Z : h_2 (pr9 i) = some (18, i, .inr (5, [.int (nI mn), va_rf (prv pr9 i), .ref b1, .ref b2, .ref b3])) := (congrFun eh_2 (pr9 i)).symm.trans (fU_keep g_Z (f_neR g_Z g_X (by decide)))
      have hW9 : fF (inR [1]) h1 h_2 := by rw [← eh_2]; exact fF.rf.set g_X (by show _ ∈ _; decide)
      have hIn := hIn.keepG hW9 (fun r9 q1 q2 q => by have := List.mem_singleton.mp q; omega)
      have hCh := hCh.keepF hW9 (fun r9 _ q1 q2 q => by have := List.mem_singleton.mp q; omega)
      have hZ1 := hZ1.keepF hW9 (fun r9 q1 q2 q => by have := List.mem_singleton.mp q; omega)
      have g_X : h_2 X = some (1, 0, .inr (0, [.ref T, .ref E, .ref F, .ref D, .ref I, .ref R, .ref Wr, .int wa, va_rf nr9, .ref (pr9 i)])) := (congrFun eh_2 X).symm.trans (fU_self _ _ _)
      refine lv_aload_n hx hb d_DR_returned_105 rfl (lv_at hl 2 rfl) ?_
      refine f_calli hI (f_runV C hI (c_RE_count l G h_2 _ (pr9 i) i mn (prv pr9 i) th1 du1 (chs1 i) hZ1 bth1 bdu1) gm_RE_count w_762 w_763 w_761 g_Z rfl rfl rfl hl.1 rfl (Nat.le_of_ble_eq_true rfl) ⟨Nat.le_of_ble_eq_true rfl, Nat.le_of_ble_eq_true rfl⟩ d_DR_returned_106 ⟨by first | exact Nat.le_of_ble_eq_true rfl | ((try dsimp only); omega), by first | exact Nat.le_of_ble_eq_true rfl | ((try dsimp only); omega)⟩) (fun r_3 h8 H9 locs hp9 hX9 hz9 hI => ?_)
      obtain ⟨rfl, e9⟩ := hp9
      rw [e9] at hI
      clear hX9 e9
      exact f_iret C hr hI ⟨th1, du1, rn1, rl1, rD1, rM1, nn9, pr9, pm9, chs1, i, hrs, by rw [hrow.1], by rw [← hnr9]; exact g_X, hi9, hpm9, hCh, hrow, hor9, hIn, hF⟩ hX (by (try dsimp only); omega) (by (try dsimp only); omega) d_DR_returned_109
    | succ k ih =>
      intro n hn th1 du1 rn1 rl1 rD1 rM1 chs1 hrs hrow hun bth1 bdu1 h1 H locs cs ss hcs hss g_X hEd hC hIn hCh hF hX hI ls hl
      have ih : ∀ n : Nat, n + k = 30 → ∀ (th1 du1 : Nat → Nat) (rn1 : Nat) (rl1 : Nat → Nat) (rD1 rM1 : Nat → Int64) (chs1 : Nat → Nat → Int64), rtS (fun l => hLt fl fk fd l mn nf) (fun l => decide ((rk (mK nf fl fk fd fw fv l (30 * mn + 29) la) (mE ne ef rr rm (30 * mn + 29))).1 = -1)) (fun l => (rk (mK nf fl fk fd fw fv l (30 * mn + 29) la) (mE ne ef rr rm (30 * mn + 29))).2.2.2 / CT) mn (th, du, 0, rl, rD, rM) n = (th1, du1, rn1, rl1, rD1, rM1) → RowI th1 du1 (chs1 i) rn1 rl1 rD1 rM1 mn n → (∀ l, n ≤ l → l < 30 → th1 (mn * 30 + l) = th (mn * 30 + l)) → (∀ k, th1 k ≤ 2) → (∀ k, du1 k ≤ 1000000000) → ∀ (h1 : fH) (H : Heap) (locs : List Loc) (cs ss : Nat), cs ≤ 4 → ss ≤ 95 → h1 X = some (1, 0, .inr (0, [.ref T, .ref E, .ref F, .ref D, .ref I, .ref R, .ref Wr, .int wa, va_rf nr9, va_rf lr])) → cEd G h1 E ne ef rr rm → cFo G h1 F A fa gq nf la fl fk fd fw fv → cIn G h1 I → cCh G h1 nn9 pr9 pm9 th1 du1 chs1 → fF inRt h h1 → fX h sz h1 → fI G.1 g_cl (fA h sz) s.heap h1 H locs → ∀ ls : Array Slot, lv_has ls 6 [(0, .ref X), (1, .int (nI mn)), (2, .ref (pr9 i)), (3, .int (nI (30 * mn))), (4, .int (nI (30 * mn + 29))), (5, .int (nI n))] → W p l e { frames := 6, cells := 4, slots := 95, locals := 145 } s m ([.ref X, .int (nI mn)] : List Value).toArray below meth c H locs cs ss (MQ below (cQi G h sz (fun z h' => ∃ (th2 du2 : Nat → Nat) (rn2 : Nat) (rl2 : Nat → Nat) (rD2 rM2 : Nat → Int64) (nn2 : Nat) (pr2 pm2 : Nat → Nat) (chs2 : Nat → Nat → Int64) (i2 : Nat), rtS (fun l => hLt fl fk fd l mn nf) (fun l => decide ((rk (mK nf fl fk fd fw fv l (30 * mn + 29) la) (mE ne ef rr rm (30 * mn + 29))).1 = -1)) (fun l => (rk (mK nf fl fk fd fw fv l (30 * mn + 29) la) (mE ne ef rr rm (30 * mn + 29))).2.2.2 / CT) mn (th, du, 0, rl, rD, rM) 30 = (th2, du2, rn2, rl2, rD2, rM2) ∧ z = nI rn2 ∧ h' X = some (1, 0, .inr (0, [.ref T, .ref E, .ref F, .ref D, .ref I, .ref R, .ref Wr, .int wa, va_rf (prv pr2 nn2), .ref (pr2 i2)])) ∧ i2 < nn2 ∧ pm2 i2 = mn ∧ cCh G h' nn2 pr2 pm2 th2 du2 chs2 ∧ RowI th2 du2 (chs2 i2) rn2 rl2 rD2 rM2 mn 30 ∧ ((nn2 = nn ∧ pm2 = pm) ∨ (nn2 = nn + 1 ∧ pm2 = va_up pm nn mn)) ∧ cIn G h' I ∧ fF inRt h h')) ([.ref X, .int (nI mn)] : List Value).toArray s 4 95 (fA h sz)) (F0 m 51 ls []) := ih
      have hZ1 := hCh.2.2 i hi9
      rw [hpm9] at hZ1
      obtain ⟨b1, b2, b3, ce, g_Z, _⟩ := id hZ1
      obtain ⟨g_F, _⟩ := id hC
      have hu0 := hun n (Nat.le_refl _) (by omega)
      have hb9 := q_ct (hbd n (30 * mn + 29) la).1
      refine lv_iload hx hb d_DR_returned_51 (lv_at hl 5 rfl) ?_
      refine lv_bipush (v := 30) hx hb d_DR_returned_53 (by decide) ?_
      refine lv_icmp_ge (tgt := 100) hx hb d_DR_returned_55 (by decide) (fun c_4 => absurd c_4 (fun q => absurd ((n_le (a := 30) (b := n) (by omega) (by omega)).mp q) (by omega))) (fun c_4 => ?_)
      refine lv_aload_n hx hb d_DR_returned_58 rfl (lv_at hl 0 rfl) ?_
      refine f_get (C := "DutyRules") (T := T_DR) (N := 10) hx hb (fun w q => hT w (s_DR w q)) hown hK hI g_X rfl 2 (by decide) (hT _ w_165) (fun _ q => q) rfl d_DR_returned_59 ?_
      refine lv_iload hx hb d_DR_returned_62 (lv_at hl 5 rfl) ?_
      refine lv_iload_n hx hb d_DR_returned_64 rfl (lv_at hl 3 rfl) ?_
      refine lv_iload hx hb d_DR_returned_65 (lv_at hl 4 rfl) ?_
      refine f_calli hI (f_runV C hI (c_FS_hasLitres l G h1 _ F A fa gq nf la fl fk fd fw fv hC n mn (by omega) bm) gm_FS_hasLitres w_744 w_745 w_743 g_F rfl rfl rfl hl.1 rfl (Nat.le_of_ble_eq_true rfl) ⟨Nat.le_of_ble_eq_true rfl, Nat.le_of_ble_eq_true rfl⟩ d_DR_returned_67 ⟨by first | exact Nat.le_of_ble_eq_true rfl | ((try dsimp only); omega), by first | exact Nat.le_of_ble_eq_true rfl | ((try dsimp only); omega)⟩) (fun r_5 h8 H9 locs hp9 hX9 hz9 hI => ?_)
      obtain ⟨rfl, e9⟩ := hp9
      rw [e9] at hI
      clear hX9 e9
      by_cases hl1 : hLt fl fk fd n mn nf = true
      · refine f_asi (if_pos hl1) ?_
        refine lv_if_eq (tgt := 94) hx hb d_DR_returned_70 (by decide) (fun c_6 => absurd c_6 (by decide)) (fun c_6 => ?_)
        refine lv_aload_n hx hb d_DR_returned_73 rfl (lv_at hl 2 rfl) ?_
        refine lv_iload hx hb d_DR_returned_74 (lv_at hl 5 rfl) ?_
        refine lv_aload_n hx hb d_DR_returned_76 rfl (lv_at hl 0 rfl) ?_
        refine lv_iload hx hb d_DR_returned_77 (lv_at hl 5 rfl) ?_
        refine lv_iload hx hb d_DR_returned_79 (lv_at hl 4 rfl) ?_
        refine lv_aload_n hx hb d_DR_returned_81 rfl (lv_at hl 0 rfl) ?_
        refine f_get (C := "DutyRules") (T := T_DR) (N := 10) hx hb (fun w q => hT w (s_DR w q)) hown hK hI g_X rfl 2 (by decide) (hT _ w_165) (fun _ q => q) rfl d_DR_returned_82 ?_
        refine f_getN (C := "DutyRules$Facts") (T := T_FS) (N := 3) hx hb (fun w q => hT w (s_FS w q)) hown hK hI g_F rfl 1 (by decide) (hG.2.1 _ w_92) (fun _ q => q) rfl d_DR_returned_85 ?_
        have hzA := hI.2.2.2.1
        refine f_calll hI (f_runV C hI (c_DR_centsOf l G h1 _ X T E F D I R Wr wa nr9 lr g_X ne ef rr rm hEd A fa gq nf la fl fk fd fw fv hC hoks hbd hIn n (30 * mn + 29) la (by omega) (by omega) bla) gm_DR_centsOf w_749 p_DR_centsOf w_747 g_X rfl rfl rfl hl.1 rfl (Nat.le_of_ble_eq_true rfl) ⟨Nat.le_of_ble_eq_true rfl, Nat.le_of_ble_eq_true rfl⟩ d_DR_returned_88 ⟨by first | exact Nat.le_of_ble_eq_true rfl | ((try dsimp only); omega), by first | exact Nat.le_of_ble_eq_true rfl | ((try dsimp only); omega)⟩) (fun r_7 h9 H9 locs hp9 hX9 hz9 hI => ?_)
        obtain ⟨rfl, hIn, hF9⟩ := hp9
        have hX := fX.tr (Nat.le_trans (Nat.le_of_eq hsz.symm) hzA) hX hX9
        have g_X := hF9 _ _ _ _ g_X (fun q => by have := q.1; omega)
        have hF := hF.tr (hF9.mono (fun r9 o9 q => Or.inr (Or.inr q)))
        have hEd := hEd.keepD hF9
        have hC := hC.keepD hF9
        have hCh := hCh.keepF hF9 (fun r9 _ q1 q2 q => by have := q.2.1; omega)
        have hZ1 := hCh.2.2 i hi9
        rw [hpm9] at hZ1
        obtain ⟨b1, b2, b3, ce, g_Z, _⟩ := id hZ1
        by_cases hk1 : (rk (mK nf fl fk fd fw fv n (30 * mn + 29) la) (mE ne ef rr rm (30 * mn + 29))).1 = -1
        · rw [if_pos hk1]
          have hzA := hI.2.2.2.1
          refine f_callv hI (f_runV C hI (c_RE_put_ok l G h9 _ (pr9 i) i mn (prv pr9 i) th1 du1 (chs1 i) hZ1 bth1 bdu1 n ((rk (mK nf fl fk fd fw fv n (30 * mn + 29) la) (mE ne ef rr rm (30 * mn + 29))).2.2.2 / CT) (by omega) hb9) gm_RE_put w_752 w_753 w_751 g_Z rfl rfl rfl hl.1 rfl (Nat.le_of_ble_eq_true rfl) ⟨Nat.le_of_ble_eq_true rfl, Nat.le_of_ble_eq_true rfl⟩ d_DR_returned_91 ⟨by first | exact Nat.le_of_ble_eq_true rfl | ((try dsimp only); omega), by first | exact Nat.le_of_ble_eq_true rfl | ((try dsimp only); omega)⟩) (fun h9 H9 locs hp9 hX9 hz9 hI => ?_)
          obtain ⟨hZ9, hF9⟩ := hp9
          have hX := fX.tr (Nat.le_trans (Nat.le_of_eq hsz.symm) hzA) hX hX9
          have g_X := hF9 _ _ _ _ g_X (fun q => by have := q.1; omega)
          have hF := hF.tr (hF9.mono (fun r9 o9 q => Or.inr (Or.inl ⟨q.1, q.2.1⟩)))
          have hEd := hEd.keepG hF9 (fun r9 o9 q1 q2 q => by have := q.1; omega)
          have hC := hC.keepG hF9 (fun r9 o9 q1 q2 q => by have := q.1; omega)
          have hIn := hIn.keepG hF9 (fun r9 q1 q2 q => by have := q.1; omega)
          have hCh := cCh_put hCh hi9 hpm9 hF9 hZ9 (fun k9 hk9 => ⟨by rw [va_up_ne _ _ (by omega), va_up_ne _ _ (by omega)], va_up_ne _ _ (by omega)⟩)
          refine lv_iinc (v := nI (n + 1)) (lv' := [(5, .int (nI (n + 1))), (0, .ref X), (1, .int (nI mn)), (2, .ref (pr9 i)), (3, .int (nI (30 * mn))), (4, .int (nI (30 * mn + 29)))]) hx hb d_DR_returned_94 hl (k := 5) rfl (f_inc1 _) (by decide) rfl (fun ls hl => ?_)
          refine lv_goto (tgt := 51) hx hb d_DR_returned_97 (by decide) ?_
          have hrs2 := rtS_yes (b := true) hrs hl1 (decide_eq_true hk1) rfl
          have hr2 := RowI_yes (v := 1) (c := (rk (mK nf fl fk fd fw fv n (30 * mn + 29) la) (mE ne ef rr rm (30 * mn + 29))).2.2.2 / CT) (X := (if th1 (mn * 30 + n) = 1 then lN ((rk (mK nf fl fk fd fw fv n (30 * mn + 29) la) (mE ne ef rr rm (30 * mn + 29))).2.2.2 / CT) - lN (du1 (mn * 30 + n)) else 0)) hrow (by omega) (by omega)
          refine ih (n + 1) (by omega) _ _ _ _ _ _ (chU chs1 i (vp_updL (chs1 i) n (if th1 (mn * 30 + n) = 1 then lN ((rk (mK nf fl fk fd fw fv n (30 * mn + 29) la) (mE ne ef rr rm (30 * mn + 29))).2.2.2 / CT) - lN (du1 (mn * 30 + n)) else 0))) hrs2 (by rw [chU_s]; exact hr2) (fun l h1 h2 => by rw [va_up_ne _ _ (by omega), va_up_ne _ _ (by omega)]; exact hun l (by omega) h2) (up_le (up_le bth1 (by decide)) (by decide)) (up_le bdu1 hb9) _ _ _ _ _ (by (try dsimp only); omega) (by (try dsimp only); omega) g_X hEd hC hIn hCh hF hX hI ls ?_
          exact lv_sub hl [1, 2, 3, 4, 5, 0] rfl
        · rw [if_neg hk1]
          have hzA := hI.2.2.2.1
          refine f_callv hI (f_runV C hI (c_RE_put_no l G h9 _ (pr9 i) i mn (prv pr9 i) th1 du1 (chs1 i) hZ1 bth1 bdu1 n ((rk (mK nf fl fk fd fw fv n (30 * mn + 29) la) (mE ne ef rr rm (30 * mn + 29))).2.2.2 / CT) (by omega) hb9) gm_RE_put w_752 w_753 w_751 g_Z rfl rfl rfl hl.1 rfl (Nat.le_of_ble_eq_true rfl) ⟨Nat.le_of_ble_eq_true rfl, Nat.le_of_ble_eq_true rfl⟩ d_DR_returned_91 ⟨by first | exact Nat.le_of_ble_eq_true rfl | ((try dsimp only); omega), by first | exact Nat.le_of_ble_eq_true rfl | ((try dsimp only); omega)⟩) (fun h9 H9 locs hp9 hX9 hz9 hI => ?_)
          obtain ⟨hZ9, hF9⟩ := hp9
          have hX := fX.tr (Nat.le_trans (Nat.le_of_eq hsz.symm) hzA) hX hX9
          have g_X := hF9 _ _ _ _ g_X (fun q => by have := q.1; omega)
          have hF := hF.tr (hF9.mono (fun r9 o9 q => Or.inr (Or.inl ⟨q.1, q.2.1⟩)))
          have hEd := hEd.keepG hF9 (fun r9 o9 q1 q2 q => by have := q.1; omega)
          have hC := hC.keepG hF9 (fun r9 o9 q1 q2 q => by have := q.1; omega)
          have hIn := hIn.keepG hF9 (fun r9 q1 q2 q => by have := q.1; omega)
          have hCh := cCh_put hCh hi9 hpm9 hF9 hZ9 (fun k9 hk9 => ⟨by rw [va_up_ne _ _ (by omega), va_up_ne _ _ (by omega)], va_up_ne _ _ (by omega)⟩)
          refine lv_iinc (v := nI (n + 1)) (lv' := [(5, .int (nI (n + 1))), (0, .ref X), (1, .int (nI mn)), (2, .ref (pr9 i)), (3, .int (nI (30 * mn))), (4, .int (nI (30 * mn + 29)))]) hx hb d_DR_returned_94 hl (k := 5) rfl (f_inc1 _) (by decide) rfl (fun ls hl => ?_)
          refine lv_goto (tgt := 51) hx hb d_DR_returned_97 (by decide) ?_
          have hrs2 := rtS_yes (b := false) hrs hl1 (decide_eq_false hk1) rfl
          have hr2 := RowI_yes (v := 2) (c := (rk (mK nf fl fk fd fw fv n (30 * mn + 29) la) (mE ne ef rr rm (30 * mn + 29))).2.2.2 / CT) (X := 0) hrow (by omega) (by omega)
          refine ih (n + 1) (by omega) _ _ _ _ _ _ (chU chs1 i (vp_updL (chs1 i) n 0)) hrs2 (by rw [chU_s]; exact hr2) (fun l h1 h2 => by rw [va_up_ne _ _ (by omega), va_up_ne _ _ (by omega)]; exact hun l (by omega) h2) (up_le (up_le bth1 (by decide)) (by decide)) (up_le bdu1 hb9) _ _ _ _ _ (by (try dsimp only); omega) (by (try dsimp only); omega) g_X hEd hC hIn hCh hF hX hI ls ?_
          exact lv_sub hl [1, 2, 3, 4, 5, 0] rfl
      · refine f_asi (if_neg hl1) ?_
        refine lv_if_eq (tgt := 94) hx hb d_DR_returned_70 (by decide) (fun c_10 => ?_) (fun c_10 => absurd (by decide) c_10)
        refine lv_iinc (v := nI (n + 1)) (lv' := [(5, .int (nI (n + 1))), (0, .ref X), (1, .int (nI mn)), (2, .ref (pr9 i)), (3, .int (nI (30 * mn))), (4, .int (nI (30 * mn + 29)))]) hx hb d_DR_returned_94 hl (k := 5) rfl (f_inc1 _) (by decide) rfl (fun ls hl => ?_)
        refine lv_goto (tgt := 51) hx hb d_DR_returned_97 (by decide) ?_
        have h0 : th1 (mn * 30 + n) = 0 := Classical.byContradiction (fun q => hl1 (hmon n (by omega) (by rw [← hu0]; exact q)))
        have hrs2 : rtS (fun l => hLt fl fk fd l mn nf) (fun l => decide ((rk (mK nf fl fk fd fw fv l (30 * mn + 29) la) (mE ne ef rr rm (30 * mn + 29))).1 = -1)) (fun l => (rk (mK nf fl fk fd fw fv l (30 * mn + 29) la) (mE ne ef rr rm (30 * mn + 29))).2.2.2 / CT) mn (th, du, 0, rl, rD, rM) (n + 1) = (th1, du1, rn1, rl1, rD1, rM1) := (rtS_no hrs hl1).trans (by show (va_up th1 _ 0, _) = _; rw [up_0 h0])
        refine ih (n + 1) (by omega) th1 du1 rn1 rl1 rD1 rM1 chs1 hrs2 (RowI_no hrow h0) (fun l h1 h2 => hun l (by omega) h2) bth1 bdu1 _ _ _ _ _ (by (try dsimp only); omega) (by (try dsimp only); omega) g_X hEd hC hIn hCh hF hX hI ls ?_
        exact lv_sub hl [1, 2, 3, 4, 5, 0] rfl
  have hpl := pm_lst bm hCh.1
  rcases eL : lst (pmP pm (nI mn)) nn with _ | i
  · skip
    refine lv_iload_n hx hb d_DR_returned_0 rfl (lv_at hl 1 rfl) ?_
    refine f_calli hI (f_runS C hI (c_DR_isMonth l G h _ (nI mn)) gm_DR_isMonth w_701 w_700 rfl hl.1 rfl (Nat.le_of_ble_eq_true rfl) ⟨Nat.le_of_ble_eq_true rfl, Nat.le_of_ble_eq_true rfl⟩ d_DR_returned_1 ⟨by first | exact Nat.le_of_ble_eq_true rfl | ((try dsimp only); omega), by first | exact Nat.le_of_ble_eq_true rfl | ((try dsimp only); omega)⟩) (fun r_11 h8 H9 locs hp9 hX9 hz9 hI => ?_)
    obtain ⟨rfl, e9⟩ := hp9
    rw [e9] at hI
    clear hX9 e9
    refine f_asi (mon_1 bm) ?_
    refine lv_if_ne (tgt := 9) hx hb d_DR_returned_4 (by decide) (fun c_12 => ?_) (fun c_12 => absurd c_12 (by decide))
    refine lv_aload_n hx hb d_DR_returned_9 rfl (lv_at hl 0 rfl) ?_
    refine lv_iload_n hx hb d_DR_returned_10 rfl (lv_at hl 1 rfl) ?_
    refine f_callq hI (f_runV C hI (c_DR_returnOf l G h _ X T E F D I R Wr wa nr lr g_X (nI mn) nn pr pm th du chs hCh hnr) gm_DR_returnOf w_714 p_DR_returnOf w_712 g_X rfl rfl rfl hl.1 rfl (Nat.le_of_ble_eq_true rfl) ⟨Nat.le_of_ble_eq_true rfl, Nat.le_of_ble_eq_true rfl⟩ d_DR_returned_11 ⟨by first | exact Nat.le_of_ble_eq_true rfl | ((try dsimp only); omega), by first | exact Nat.le_of_ble_eq_true rfl | ((try dsimp only); omega)⟩) (fun r_13 h8 H9 locs hp9 hX9 hz9 hI => ?_)
    obtain ⟨rfl, e9q⟩ := hp9
    rw [e9q] at hI
    clear hX9 e9q
    rw [eL]
    show W _ _ _ _ _ _ _ _ _ _ _ _ _ _ _ (F0 m _ ls [.null])
    refine lv_astore_nN (lv' := [(2, .null), (0, .ref X), (1, .int (nI mn))]) hx hb d_DR_returned_14 rfl hl (by decide) rfl (fun ls hl => ?_)
    refine lv_aload_nN hx hb d_DR_returned_15 rfl (lv_at hl 0 rfl) ?_
    refine lv_ifnonnullN hx hb d_DR_returned_16 ?_
    have hzN := hI.2.2.2.1
    refine f_new (ci := 5) (C := "DutyRules$Return") (T := T_RE) (N := 5) (N2 := 5) (fs := [.int 0, .null, .null, .null, .null]) hx hb (fun w q => hT w (s_RE w q)) t_RE k_RE hown (hT _ w_716) (hT _ w_717) (hT _ w_21) hK hI rfl (fun j hj => by rcases (show j = 0 ∨ j = 1 ∨ j = 2 ∨ j = 3 ∨ j = 4 by omega) with rfl | rfl | rfl | rfl | rfl <;> rfl) 18 nn (Nat.le_of_ble_eq_true rfl) (Nat.le_of_ble_eq_true rfl) d_DR_returned_19 (fun q_14 H eq_14 zq_14 nq_14 hI => ?_)
    generalize eh_15 : fU h q_14 (18, nn, .inr (5, [.int 0, .null, .null, .null, .null])) = h_15 at hI
    have hX := hX.new (e := .inr (5, [.int 0, .null, .null, .null, .null])) (r := 18) (o := nn) nq_14 (by omega); rw [eh_15] at hX
    have hF := hF.new (c := (18, nn, .inr (5, [.int 0, .null, .null, .null, .null]))) nq_14; rw [eh_15] at hF
    have hW9 : fF (inR []) h h_15 := by rw [← eh_15]; exact fF.rf.new nq_14
    have hEd := hEd.keepG hW9 (fun r9 o9 q1 q2 q => absurd q List.not_mem_nil)
    have hC := hC.keepG hW9 (fun r9 o9 q1 q2 q => absurd q List.not_mem_nil)
    have hIn := hIn.keepG hW9 (fun r9 q1 q2 q => absurd q List.not_mem_nil)
    have hCh := hCh.keepF hW9 (fun r9 o9 q1 q2 q => absurd q List.not_mem_nil)
    have g_X : h_15 X = some (1, 0, .inr (0, [.ref T, .ref E, .ref F, .ref D, .ref I, .ref R, .ref Wr, .int wa, va_rf nr, va_rf lr])) := (congrFun eh_15 X).symm.trans (fU_keep g_X (f_neN g_X nq_14))
    have g_q_14 : h_15 q_14 = some (18, nn, .inr (5, [.int 0, .null, .null, .null, .null])) := (congrFun eh_15 q_14).symm.trans (fU_self _ _ _)
    refine lv_dup hx hb d_DR_returned_22 rfl ?_
    refine lv_iload_n hx hb d_DR_returned_23 rfl (lv_at hl 2 rfl) ?_
    refine lv_aload_n hx hb d_DR_returned_24 rfl (lv_at hl 1 rfl) ?_
    refine f_get (C := "DutyRules") (T := T_DR) (N := 10) hx hb (fun w q => hT w (s_DR w q)) hown hK hI g_X rfl 8 (by decide) (hT _ w_171) (fun _ q => q) rfl d_DR_returned_25 ?_
    have hzA := hI.2.2.2.1
    refine f_callv hI (f_runI C hI (c_RE_init l G h_15 _ q_14 nn mn nr th du (hz0 eL) g_q_14) gm_RE_init w_719 rfl w_718 rfl hl.1 rfl (Nat.le_of_ble_eq_true rfl) ⟨Nat.le_of_ble_eq_true rfl, Nat.le_of_ble_eq_true rfl⟩ d_DR_returned_28 ⟨by first | exact Nat.le_of_ble_eq_true rfl | ((try dsimp only); omega), by first | exact Nat.le_of_ble_eq_true rfl | ((try dsimp only); omega)⟩) (fun h9 H9 locs hp9 hX9 hz9 hI => ?_)
    obtain ⟨hZ9, hF9⟩ := hp9
    have hX := fX.tr (Nat.le_trans (Nat.le_of_eq hsz.symm) hzA) hX hX9
    have g_X := hF9 _ _ _ _ g_X (fun q => by have := q.1; omega)
    have hF := hF.tr (hF9.mono (fun r9 o9 q => Or.inr (Or.inl (by rw [q.1]; decide))))
    have hEd := hEd.keepG hF9 (fun r9 o9 q1 q2 q => by have := q.1; omega)
    have hC := hC.keepG hF9 (fun r9 o9 q1 q2 q => by have := q.1; omega)
    have hIn := hIn.keepG hF9 (fun r9 q1 q2 q => by have := q.1; omega)
    rw [hnr] at hZ9
    have hCh := cCh_new hCh bm (hpl.1.mp eL) hF9 hZ9
    obtain ⟨z1, z2, z3, zc, g_q_14, _⟩ := id hZ9
    refine lv_astore_n (lv' := [(2, .ref q_14), (0, .ref X), (1, .int (nI mn))]) hx hb d_DR_returned_31 rfl hl (by decide) rfl (fun ls hl => ?_)
    refine lv_aload_n hx hb d_DR_returned_32 rfl (lv_at hl 1 rfl) ?_
    refine lv_aload_n hx hb d_DR_returned_33 rfl (lv_at hl 0 rfl) ?_
    refine f_put (C := "DutyRules") (T := T_DR) (N := 10) (fs' := [.ref T, .ref E, .ref F, .ref D, .ref I, .ref R, .ref Wr, .int wa, .ref q_14, va_rf lr]) (v := .ref q_14) hx hb (fun w q => hT w (s_DR w q)) t_DR k_DR n_DR hown hK hI g_X (by decide) rfl 8 (by decide) (hT _ w_171) (fun _ q => q) rfl rfl rfl (Nat.le_of_ble_eq_true rfl) rfl d_DR_returned_34 (fun H locs hI => ?_)
    generalize eh_17 : fU h9 X (1, 0, .inr (0, [.ref T, .ref E, .ref F, .ref D, .ref I, .ref R, .ref Wr, .int wa, .ref q_14, va_rf lr])) = h_17 at hI
    have hX := hX.set (e := .inr (0, [.ref T, .ref E, .ref F, .ref D, .ref I, .ref R, .ref Wr, .int wa, .ref q_14, va_rf lr])) g_X (by decide); rw [eh_17] at hX
    have hF := hF.set (e := .inr (0, [.ref T, .ref E, .ref F, .ref D, .ref I, .ref R, .ref Wr, .int wa, .ref q_14, va_rf lr])) g_X (Or.inl rfl); rw [eh_17] at hF
    have g_q_14 : h_17 q_14 = some (18, nn, .inr (5, [.int (nI mn), va_rf (prv pr nn), .ref z1, .ref z2, .ref z3])) := (congrFun eh_17 q_14).symm.trans (fU_keep g_q_14 (f_neR g_q_14 g_X (by decide)))
    have hW9 : fF (inR [1]) h9 h_17 := by rw [← eh_17]; exact fF.rf.set g_X (by show _ ∈ _; decide)
    have hIn := hIn.keepG hW9 (fun r9 q1 q2 q => by have := List.mem_singleton.mp q; omega)
    have hCh := hCh.keepF hW9 (fun r9 _ q1 q2 q => by have := List.mem_singleton.mp q; omega)
    have hEd := hEd.keepF hW9 (by decide)
    have hC := hC.keepF hW9 (by decide) (by decide) (by decide)
    have g_X : h_17 X = some (1, 0, .inr (0, [.ref T, .ref E, .ref F, .ref D, .ref I, .ref R, .ref Wr, .int wa, .ref q_14, va_rf lr])) := (congrFun eh_17 X).symm.trans (fU_self _ _ _)
    refine lv_bipush (v := 30) hx hb d_DR_returned_37 (by decide) ?_
    refine lv_iload_n hx hb d_DR_returned_39 rfl (lv_at hl 2 rfl) ?_
    refine lv_imul hx hb d_DR_returned_40 ?_
    refine f_asi (pk_mul 30 mn) ?_
    refine lv_istore_n (lv' := [(3, .int (nI (30 * mn))), (2, .ref q_14), (0, .ref X), (1, .int (nI mn))]) hx hb d_DR_returned_41 rfl hl (by decide) rfl (fun ls hl => ?_)
    refine lv_iload_n hx hb d_DR_returned_42 rfl (lv_at hl 3 rfl) ?_
    refine f_calli hI (f_runS C hI (c_DR_lastDayOf l G h_17 _ (nI mn)) gm_DR_lastDayOf w_705 w_704 rfl hl.1 rfl (Nat.le_of_ble_eq_true rfl) ⟨Nat.le_of_ble_eq_true rfl, Nat.le_of_ble_eq_true rfl⟩ d_DR_returned_43 ⟨by first | exact Nat.le_of_ble_eq_true rfl | ((try dsimp only); omega), by first | exact Nat.le_of_ble_eq_true rfl | ((try dsimp only); omega)⟩) (fun r_18 h8 H9 locs hp9 hX9 hz9 hI => ?_)
    obtain ⟨rfl, e9⟩ := hp9
    rw [e9] at hI
    clear hX9 e9
    refine f_asi (ld_n bm) ?_
    refine lv_istore (lv' := [(4, .int (nI (30 * mn + 29))), (3, .int (nI (30 * mn))), (2, .ref q_14), (0, .ref X), (1, .int (nI mn))]) hx hb d_DR_returned_46 hl (by decide) rfl (fun ls hl => ?_)
    refine lv_iconst (v := 0) hx hb d_DR_returned_48 (by decide) ?_
    refine lv_istore (lv' := [(5, .int 0), (4, .int (nI (30 * mn + 29))), (3, .int (nI (30 * mn))), (2, .ref q_14), (0, .ref X), (1, .int (nI mn))]) hx hb d_DR_returned_49 hl (by decide) rfl (fun ls hl => ?_)
    refine J51 (nn + 1) (va_up pr nn q_14) (va_up pm nn mn) nn (some q_14) (by omega) (va_up_self _ _ _) (by unfold prv; rw [if_neg (by omega), Nat.add_sub_cancel, va_up_self]) (Or.inr ⟨rfl, rfl⟩) 30 0 (by omega) th du 0 rl rD rM (chU chs nn (fun _ => 0)) rfl ⟨rfl, fun l hl => absurd hl (Nat.not_lt_zero l)⟩ (fun l _ _ => rfl) bth bdu _ _ _ _ _ (by (try dsimp only); omega) (by (try dsimp only); omega) g_X hEd hC hIn hCh hF hX hI ls ?_
    rw [va_up_self]
    exact lv_sub hl [4, 5, 3, 2, 1, 0] rfl
  · obtain ⟨hin9, hpmi⟩ := hpl.2 i eL
    refine lv_iload_n hx hb d_DR_returned_0 rfl (lv_at hl 1 rfl) ?_
    refine f_calli hI (f_runS C hI (c_DR_isMonth l G h _ (nI mn)) gm_DR_isMonth w_701 w_700 rfl hl.1 rfl (Nat.le_of_ble_eq_true rfl) ⟨Nat.le_of_ble_eq_true rfl, Nat.le_of_ble_eq_true rfl⟩ d_DR_returned_1 ⟨by first | exact Nat.le_of_ble_eq_true rfl | ((try dsimp only); omega), by first | exact Nat.le_of_ble_eq_true rfl | ((try dsimp only); omega)⟩) (fun r_19 h8 H9 locs hp9 hX9 hz9 hI => ?_)
    obtain ⟨rfl, e9⟩ := hp9
    rw [e9] at hI
    clear hX9 e9
    refine f_asi (mon_1 bm) ?_
    refine lv_if_ne (tgt := 9) hx hb d_DR_returned_4 (by decide) (fun c_20 => ?_) (fun c_20 => absurd c_20 (by decide))
    refine lv_aload_n hx hb d_DR_returned_9 rfl (lv_at hl 0 rfl) ?_
    refine lv_iload_n hx hb d_DR_returned_10 rfl (lv_at hl 1 rfl) ?_
    refine f_callq hI (f_runV C hI (c_DR_returnOf l G h _ X T E F D I R Wr wa nr lr g_X (nI mn) nn pr pm th du chs hCh hnr) gm_DR_returnOf w_714 p_DR_returnOf w_712 g_X rfl rfl rfl hl.1 rfl (Nat.le_of_ble_eq_true rfl) ⟨Nat.le_of_ble_eq_true rfl, Nat.le_of_ble_eq_true rfl⟩ d_DR_returned_11 ⟨by first | exact Nat.le_of_ble_eq_true rfl | ((try dsimp only); omega), by first | exact Nat.le_of_ble_eq_true rfl | ((try dsimp only); omega)⟩) (fun r_21 h8 H9 locs hp9 hX9 hz9 hI => ?_)
    obtain ⟨rfl, e9q⟩ := hp9
    rw [e9q] at hI
    clear hX9 e9q
    rw [eL]
    show W _ _ _ _ _ _ _ _ _ _ _ _ _ _ _ (F0 m _ ls [.ref (pr i)])
    refine lv_astore_n (lv' := [(2, .ref (pr i)), (0, .ref X), (1, .int (nI mn))]) hx hb d_DR_returned_14 rfl hl (by decide) rfl (fun ls hl => ?_)
    refine lv_aload_n hx hb d_DR_returned_15 rfl (lv_at hl 0 rfl) ?_
    refine lv_ifnonnull (tgt := 37) hx hb d_DR_returned_16 (by decide) ?_
    refine lv_bipush (v := 30) hx hb d_DR_returned_37 (by decide) ?_
    refine lv_iload_n hx hb d_DR_returned_39 rfl (lv_at hl 2 rfl) ?_
    refine lv_imul hx hb d_DR_returned_40 ?_
    refine f_asi (pk_mul 30 mn) ?_
    refine lv_istore_n (lv' := [(3, .int (nI (30 * mn))), (2, .ref (pr i)), (0, .ref X), (1, .int (nI mn))]) hx hb d_DR_returned_41 rfl hl (by decide) rfl (fun ls hl => ?_)
    refine lv_iload_n hx hb d_DR_returned_42 rfl (lv_at hl 3 rfl) ?_
    refine f_calli hI (f_runS C hI (c_DR_lastDayOf l G h _ (nI mn)) gm_DR_lastDayOf w_705 w_704 rfl hl.1 rfl (Nat.le_of_ble_eq_true rfl) ⟨Nat.le_of_ble_eq_true rfl, Nat.le_of_ble_eq_true rfl⟩ d_DR_returned_43 ⟨by first | exact Nat.le_of_ble_eq_true rfl | ((try dsimp only); omega), by first | exact Nat.le_of_ble_eq_true rfl | ((try dsimp only); omega)⟩) (fun r_22 h8 H9 locs hp9 hX9 hz9 hI => ?_)
    obtain ⟨rfl, e9⟩ := hp9
    rw [e9] at hI
    clear hX9 e9
    refine f_asi (ld_n bm) ?_
    refine lv_istore (lv' := [(4, .int (nI (30 * mn + 29))), (3, .int (nI (30 * mn))), (2, .ref (pr i)), (0, .ref X), (1, .int (nI mn))]) hx hb d_DR_returned_46 hl (by decide) rfl (fun ls hl => ?_)
    refine lv_iconst (v := 0) hx hb d_DR_returned_48 (by decide) ?_
    refine lv_istore (lv' := [(5, .int 0), (4, .int (nI (30 * mn + 29))), (3, .int (nI (30 * mn))), (2, .ref (pr i)), (0, .ref X), (1, .int (nI mn))]) hx hb d_DR_returned_49 hl (by decide) rfl (fun ls hl => ?_)
    refine J51 nn pr pm i nr hin9 hpmi hnr (Or.inl ⟨rfl, rfl⟩) 30 0 (by omega) th du 0 rl rD rM chs rfl ⟨rfl, fun l hl => absurd hl (Nat.not_lt_zero l)⟩ (fun l _ _ => rfl) bth bdu _ _ _ _ _ (by (try dsimp only); omega) (by (try dsimp only); omega) g_X hEd hC hIn hCh hF hX hI ls ?_
    exact lv_sub hl [4, 5, 3, 2, 1, 0] rfl
