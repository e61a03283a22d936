theorem gm_DR_unit : gM y_DR_unit b_DR_unit 2 (some .boolean) 1 := ⟨w_197, w_1, ⟨by decide, by decide⟩, by decide +kernel⟩
set_option maxHeartbeats 4000000 in
set_option maxRecDepth 100000 in
/-- DR_unit  -/
theorem c_DR_unit_no (l : Launch) (G : gG) (h : fH) (sz : Nat) (X T E F D I R Wr : Nat) (wa : Int32) (nr lr : Option Nat) (g_X : h X = some (1, 0, .inr (0, [.ref T, .ref E, .ref F, .ref D, .ref I, .ref R, .ref Wr, .int wa, va_rf nr, va_rf lr]))) (u : Int32) (mm tn : Nat) (tx : Nat → Nat) (hB : bS G h 2 3 0 T mm tn tx) (btn : tn ≤ 2000) (bmm : mm ≤ 4002) (hbad : u < 1 ∨ 127 < u ∨ tn = 2000) : cM l y_DR_unit b_DR_unit 2 (some .boolean) { frames := 6, cells := 1, slots := 8100, locals := 133 } G [.ref X, .int u] h sz (cQi G h sz (fun z h' => z = 0 ∧ h' = h)) := by
  refine f_start (by decide) (Nat.le_of_ble_eq_true rfl) ?_
  intro p e s m below meth c ls C hr hsz hI hl
  obtain ⟨hx, hb, hml, hown, hnm, hlk, hT, hG, hZ⟩ := id C
  have hK := hG.1
  have hX : fX h sz h := fX.rf
  have hl : lv_has ls 2 [(0, .ref X), (1, .int u)] := hl
  obtain ⟨tb0, tm0, tf0, g_T, g_tb, _, _, bn0, b16, _⟩ := id hB
  refine lv_iload_n hx hb d_DR_unit_0 rfl (lv_at hl 1 rfl) ?_
  refine lv_iconst (v := 1) hx hb d_DR_unit_1 (by decide) ?_
  refine lv_icmp_lt (tgt := 24) hx hb d_DR_unit_2 (by decide) (fun c_1 => ?_) (fun c_1 => ?_)
  · skip
    refine lv_iconst (v := 0) hx hb d_DR_unit_24 (by decide) ?_
    exact f_zret C hr rfl hI ⟨rfl, rfl⟩ hX (by (try dsimp only); omega) (by (try dsimp only); omega) d_DR_unit_25
  · skip
    refine lv_iload_n hx hb d_DR_unit_5 rfl (lv_at hl 1 rfl) ?_
    refine lv_bipush (v := 127) hx hb d_DR_unit_6 (by decide) ?_
    refine lv_icmp_gt (tgt := 24) hx hb d_DR_unit_8 (by decide) (fun c_2 => ?_) (fun c_2 => ?_)
    · skip
      refine lv_iconst (v := 0) hx hb d_DR_unit_24 (by decide) ?_
      exact f_zret C hr rfl hI ⟨rfl, rfl⟩ hX (by (try dsimp only); omega) (by (try dsimp only); omega) d_DR_unit_25
    · skip
      refine lv_aload_n hx hb d_DR_unit_11 rfl (lv_at hl 0 rfl) ?_
      refine f_get (C := "DutyRules") (T := T_DR) (N := 10) hx hb (fun w q => hT w (s_DR w q)) hown hK hI g_X rfl 0 (by decide) (hT _ w_163) (fun _ q => q) rfl d_DR_unit_12 ?_
      refine f_calli hI (f_runV C hI (c_SB_length l G h _ T tb0 2 0 tm0 (nI tn) g_T) gm_SB_length w_199 w_200 w_198 g_T rfl rfl rfl hl.1 rfl (Nat.le_of_ble_eq_true rfl) ⟨Nat.le_of_ble_eq_true rfl, Nat.le_of_ble_eq_true rfl⟩ d_DR_unit_15 ⟨by first | exact Nat.le_of_ble_eq_true rfl | ((try dsimp only); omega), by first | exact Nat.le_of_ble_eq_true rfl | ((try dsimp only); omega)⟩) (fun r_3 h8 H9 locs hp9 hX9 hz9 hI => ?_)
      obtain ⟨rfl, e9⟩ := hp9
      rw [e9] at hI
      clear hX9 e9
      refine lv_sipush (v := 2000) hx hb d_DR_unit_18 (by decide) ?_
      refine lv_icmp_lt (tgt := 26) hx hb d_DR_unit_21 (by decide) (fun c_4 => ?_) (fun c_4 => ?_)
      · have c_4 : tn < 2000 := (n_lt (a := tn) (b := 2000) (by omega) (by omega)).mp c_4
        exfalso
        rcases hbad with q | q | q
        · exact c_1 q
        · exact c_2 q
        · exact absurd q (by omega)
      · have c_4 : ¬ tn < 2000 := fun q => c_4 ((n_lt (a := tn) (b := 2000) (by omega) (by omega)).mpr q)
        refine lv_iconst (v := 0) hx hb d_DR_unit_24 (by decide) ?_
        exact f_zret C hr rfl hI ⟨rfl, rfl⟩ hX (by (try dsimp only); omega) (by (try dsimp only); omega) d_DR_unit_25
set_option maxHeartbeats 4000000 in
set_option maxRecDepth 100000 in
/-- DR_unit  -/
theorem c_DR_unit_ok (l : Launch) (G : gG) (h : fH) (sz : Nat) (X T E F D I R Wr : Nat) (wa : Int32) (nr lr : Option Nat) (g_X : h X = some (1, 0, .inr (0, [.ref T, .ref E, .ref F, .ref D, .ref I, .ref R, .ref Wr, .int wa, va_rf nr, va_rf lr]))) (U : Nat) (mm tn : Nat) (tx : Nat → Nat) (hB : bS G h 2 3 0 T mm tn tx) (btn : tn ≤ 2000) (bmm : mm ≤ 4002) (bU1 : 1 ≤ U) (bU2 : U ≤ 127) (btn2 : tn < 2000) : cM l y_DR_unit b_DR_unit 2 (some .boolean) { frames := 6, cells := 1, slots := 8100, locals := 133 } G [.ref X, .int (nI U)] h sz (cQi G h sz (fun z h' => z = 1 ∧ bS G h' 2 3 0 T (gw mm (tn + 1)) (tn + 1) (va_up tx tn U) ∧ fF (inR [2, 3]) h h')) := by
  refine f_start (by decide) (Nat.le_of_ble_eq_true rfl) ?_
  intro p e s m below meth c ls C hr hsz hI hl
  obtain ⟨hx, hb, hml, hown, hnm, hlk, hT, hG, hZ⟩ := id C
  have hK := hG.1
  have hX : fX h sz h := fX.rf
  have hl : lv_has ls 2 [(0, .ref X), (1, .int (nI U))] := hl
  obtain ⟨tb0, tm0, tf0, g_T, g_tb, _, _, bn0, b16, _⟩ := id hB
  have hgb := gcs_b mm (tn + 1)
  refine lv_iload_n hx hb d_DR_unit_0 rfl (lv_at hl 1 rfl) ?_
  refine lv_iconst (v := 1) hx hb d_DR_unit_1 (by decide) ?_
  refine lv_icmp_lt (tgt := 24) hx hb d_DR_unit_2 (by decide) (fun c_1 => absurd c_1 (fun q => absurd ((n_lt (a := U) (b := 1) (by omega) (by omega)).mp q) (by omega))) (fun c_1 => ?_)
  refine lv_iload_n hx hb d_DR_unit_5 rfl (lv_at hl 1 rfl) ?_
  refine lv_bipush (v := 127) hx hb d_DR_unit_6 (by decide) ?_
  refine lv_icmp_gt (tgt := 24) hx hb d_DR_unit_8 (by decide) (fun c_2 => absurd c_2 (fun q => absurd ((n_lt (a := 127) (b := U) (by omega) (by omega)).mp q) (by omega))) (fun c_2 => ?_)
  refine lv_aload_n hx hb d_DR_unit_11 rfl (lv_at hl 0 rfl) ?_
  refine f_get (C := "DutyRules") (T := T_DR) (N := 10) hx hb (fun w q => hT w (s_DR w q)) hown hK hI g_X rfl 0 (by decide) (hT _ w_163) (fun _ q => q) rfl d_DR_unit_12 ?_
  refine f_calli hI (f_runV C hI (c_SB_length l G h _ T tb0 2 0 tm0 (nI tn) g_T) gm_SB_length w_199 w_200 w_198 g_T rfl rfl rfl hl.1 rfl (Nat.le_of_ble_eq_true rfl) ⟨Nat.le_of_ble_eq_true rfl, Nat.le_of_ble_eq_true rfl⟩ d_DR_unit_15 ⟨by first | exact Nat.le_of_ble_eq_true rfl | ((try dsimp only); omega), by first | exact Nat.le_of_ble_eq_true rfl | ((try dsimp only); omega)⟩) (fun r_3 h8 H9 locs hp9 hX9 hz9 hI => ?_)
  obtain ⟨rfl, e9⟩ := hp9
  rw [e9] at hI
  clear hX9 e9
  refine lv_sipush (v := 2000) hx hb d_DR_unit_18 (by decide) ?_
  refine lv_icmp_lt (tgt := 26) hx hb d_DR_unit_21 (by decide) (fun c_4 => ?_) (fun c_4 => absurd ((n_lt (a := tn) (b := 2000) (by omega) (by omega)).mpr (by omega)) c_4)
  refine lv_aload_n hx hb d_DR_unit_26 rfl (lv_at hl 0 rfl) ?_
  refine f_get (C := "DutyRules") (T := T_DR) (N := 10) hx hb (fun w q => hT w (s_DR w q)) hown hK hI g_X rfl 0 (by decide) (hT _ w_163) (fun _ q => q) rfl d_DR_unit_27 ?_
  refine lv_iload_n hx hb d_DR_unit_30 rfl (lv_at hl 1 rfl) ?_
  refine lv_i2c hx hb d_DR_unit_31 rfl ?_
  refine f_asi (ch_u (by omega)) ?_
  have hzA := hI.2.2.2.1
  refine f_callq hI (f_runV C hI (c_SB_append l G h _ T 2 3 0 mm tn U tx (by decide) (by decide) (by decide) hB (by omega) (by omega)) gm_SB_append w_206 w_207 w_205 g_T rfl rfl rfl hl.1 rfl (Nat.le_of_ble_eq_true rfl) ⟨Nat.le_of_ble_eq_true rfl, Nat.le_of_ble_eq_true rfl⟩ d_DR_unit_32 ⟨by first | exact Nat.le_of_ble_eq_true rfl | ((try dsimp only); omega), by first | exact Nat.le_of_ble_eq_true rfl | ((try dsimp only); omega)⟩) (fun r_5 h9 H9 locs hp9 hX9 hz9 hI => ?_)
  obtain ⟨rfl, hB9, hF9⟩ := hp9
  have hX := fX.tr (Nat.le_trans (Nat.le_of_eq hsz.symm) hzA) hX hX9
  refine lv_pop hx hb d_DR_unit_35 rfl ?_
  refine lv_iconst (v := 1) hx hb d_DR_unit_36 (by decide) ?_
  exact f_zret C hr rfl hI ⟨rfl, hB9, hF9⟩ hX (by (try dsimp only); omega) (by (try dsimp only); omega) d_DR_unit_37
theorem gm_DR_edition : gM y_DR_edition b_DR_edition 3 (some .int) 1 := ⟨w_545, w_1, ⟨by decide, by decide⟩, by decide +kernel⟩
set_option maxHeartbeats 4000000 in
set_option maxRecDepth 100000 in
/-- DR_edition  -/
theorem c_DR_edition_no (l : Launch) (G : gG) (h : fH) (sz : Nat) (X T E F D I R Wr : Nat) (wa : Int32) (nr lr : Option Nat) (g_X : h X = some (1, 0, .inr (0, [.ref T, .ref E, .ref F, .ref D, .ref I, .ref R, .ref Wr, .int wa, va_rf nr, va_rf lr]))) (dy : Int64) (hbad : dy < 0 ∨ 100000 < dy) : cM l y_DR_edition b_DR_edition 3 (some .int) { frames := 1, cells := 0, slots := 0, locals := 22 } G [.ref X, .long dy] h sz (cQi G h sz (fun z h' => z = -1 ∧ h' = h)) := by
  refine f_start (by decide) (Nat.le_of_ble_eq_true rfl) ?_
  intro p e s m below meth c ls C hr hsz hI hl
  obtain ⟨hx, hb, hml, hown, hnm, hlk, hT, hG, hZ⟩ := id C
  have hK := hG.1
  have hX : fX h sz h := fX.rf
  have hl : lv_has ls 3 [(0, .ref X), (1, .long dy)] := hl
  refine lv_lload_n hx hb d_DR_edition_0 rfl (lv_at hl 1 rfl) ?_
  refine f_calli hI (f_runS C hI (c_DR_isDay l G h _ dy) gm_DR_isDay w_547 w_546 rfl hl.1 rfl (Nat.le_of_ble_eq_true rfl) ⟨Nat.le_of_ble_eq_true rfl, Nat.le_of_ble_eq_true rfl⟩ d_DR_edition_1 ⟨by first | exact Nat.le_of_ble_eq_true rfl | ((try dsimp only); omega), by first | exact Nat.le_of_ble_eq_true rfl | ((try dsimp only); omega)⟩) (fun r_1 h8 H9 locs hp9 hX9 hz9 hI => ?_)
  obtain ⟨rfl, e9⟩ := hp9
  rw [e9] at hI
  clear hX9 e9
  refine lv_if_ne (tgt := 9) hx hb d_DR_edition_4 (by decide) (fun c_2 => absurd (day_bad hbad) c_2) (fun c_2 => ?_)
  refine lv_iconst (v := (-1)) hx hb d_DR_edition_7 (by decide) ?_
  exact f_iret C hr hI ⟨rfl, rfl⟩ hX (by (try dsimp only); omega) (by (try dsimp only); omega) d_DR_edition_8
set_option maxHeartbeats 4000000 in
set_option maxRecDepth 100000 in
/-- DR_edition  -/
theorem c_DR_edition_full (l : Launch) (G : gG) (h : fH) (sz : Nat) (X T E F D I R Wr : Nat) (wa : Int32) (nr lr : Option Nat) (g_X : h X = some (1, 0, .inr (0, [.ref T, .ref E, .ref F, .ref D, .ref I, .ref R, .ref Wr, .int wa, va_rf nr, va_rf lr]))) (ne : Nat) (ef rr rm : Nat → Nat) (hEd : cEd G h E ne ef rr rm) (d : Nat) (hc : cR G h R rr rm 10) (bd : d ≤ 100000) (hful : ne = 10) : cM l y_DR_edition b_DR_edition 3 (some .int) { frames := 1, cells := 0, slots := 0, locals := 22 } G [.ref X, .long (lN d)] h sz (cQi G h sz (fun z h' => z = -2 ∧ h' = h)) := by
  refine f_start (by decide) (Nat.le_of_ble_eq_true rfl) ?_
  intro p e s m below meth c ls C hr hsz hI hl
  obtain ⟨hx, hb, hml, hown, hnm, hlk, hT, hG, hZ⟩ := id C
  have hK := hG.1
  have hX : fX h sz h := fX.rf
  have hl : lv_has ls 3 [(0, .ref X), (1, .long (lN d))] := hl
  obtain ⟨A5, A6, ge, g_E, g_A5, g_A6, hge, bne, bef⟩ := id hEd
  refine lv_lload_n hx hb d_DR_edition_0 rfl (lv_at hl 1 rfl) ?_
  refine f_calli hI (f_runS C hI (c_DR_isDay l G h _ (lN d)) gm_DR_isDay w_547 w_546 rfl hl.1 rfl (Nat.le_of_ble_eq_true rfl) ⟨Nat.le_of_ble_eq_true rfl, Nat.le_of_ble_eq_true rfl⟩ d_DR_edition_1 ⟨by first | exact Nat.le_of_ble_eq_true rfl | ((try dsimp only); omega), by first | exact Nat.le_of_ble_eq_true rfl | ((try dsimp only); omega)⟩) (fun r_1 h8 H9 locs hp9 hX9 hz9 hI => ?_)
  obtain ⟨rfl, e9⟩ := hp9
  rw [e9] at hI
  clear hX9 e9
  refine f_asi (day_1 (by omega)) ?_
  refine lv_if_ne (tgt := 9) hx hb d_DR_edition_4 (by decide) (fun c_2 => ?_) (fun c_2 => absurd c_2 (by decide))
  refine lv_aload_n hx hb d_DR_edition_9 rfl (lv_at hl 0 rfl) ?_
  refine f_get (C := "DutyRules") (T := T_DR) (N := 10) hx hb (fun w q => hT w (s_DR w q)) hown hK hI g_X rfl 1 (by decide) (hT _ w_164) (fun _ q => q) rfl d_DR_edition_10 ?_
  refine lv_aload_n hx hb d_DR_edition_13 rfl (lv_at hl 0 rfl) ?_
  refine f_get (C := "DutyRules") (T := T_DR) (N := 10) hx hb (fun w q => hT w (s_DR w q)) hown hK hI g_X rfl 5 (by decide) (hT _ w_168) (fun _ q => q) rfl d_DR_edition_14 ?_
  refine lv_lload_n hx hb d_DR_edition_17 rfl (lv_at hl 1 rfl) ?_
  refine lv_l2i (v := nI d) hx hb d_DR_edition_18 (n_l2i _) ?_
  have hzA := hI.2.2.2.1
  refine f_calli hI (f_runV C hI (c_ED_add_full l G h _ E ne ef rr rm hEd R d hc bd hful) gm_ED_add w_551 w_552 w_550 g_E rfl rfl rfl hl.1 rfl (Nat.le_of_ble_eq_true rfl) ⟨Nat.le_of_ble_eq_true rfl, Nat.le_of_ble_eq_true rfl⟩ d_DR_edition_19 ⟨by first | exact Nat.le_of_ble_eq_true rfl | ((try dsimp only); omega), by first | exact Nat.le_of_ble_eq_true rfl | ((try dsimp only); omega)⟩) (fun r_3 h8 H9 locs hp9 hX9 hz9 hI => ?_)
  obtain ⟨rfl, e9f⟩ := hp9
  rw [e9f] at hI
  exact f_iret C hr hI ⟨rfl, rfl⟩ hX (by (try dsimp only); omega) (by (try dsimp only); omega) d_DR_edition_22
set_option maxHeartbeats 4000000 in
set_option maxRecDepth 100000 in
/-- DR_edition  -/
theorem c_DR_edition_ok (l : Launch) (G : gG) (h : fH) (sz : Nat) (X T E F D I R Wr : Nat) (wa : Int32) (nr lr : Option Nat) (g_X : h X = some (1, 0, .inr (0, [.ref T, .ref E, .ref F, .ref D, .ref I, .ref R, .ref Wr, .int wa, va_rf nr, va_rf lr]))) (ne : Nat) (ef rr rm : Nat → Nat) (hEd : cEd G h E ne ef rr rm) (d : Nat) (hc : cR G h R rr rm 10) (bd : d ≤ 100000) (bne2 : ne < 10) : cM l y_DR_edition b_DR_edition 3 (some .int) { frames := 1, cells := 0, slots := 0, locals := 22 } G [.ref X, .long (lN d)] h sz (cQi G h sz (fun z h' => z = nI ne ∧ cEd G h' E (ne + 1) (va_up ef ne d) (cp rr ne 200) (va_up rm ne (rm 10)) ∧ fF (inR [4, 5, 6]) h h')) := by
  refine f_start (by decide) (Nat.le_of_ble_eq_true rfl) ?_
  intro p e s m below meth c ls C hr hsz hI hl
  obtain ⟨hx, hb, hml, hown, hnm, hlk, hT, hG, hZ⟩ := id C
  have hK := hG.1
  have hX : fX h sz h := fX.rf
  have hl : lv_has ls 3 [(0, .ref X), (1, .long (lN d))] := hl
  obtain ⟨A5, A6, ge, g_E, g_A5, g_A6, hge, bne, bef⟩ := id hEd
  refine lv_lload_n hx hb d_DR_edition_0 rfl (lv_at hl 1 rfl) ?_
  refine f_calli hI (f_runS C hI (c_DR_isDay l G h _ (lN d)) gm_DR_isDay w_547 w_546 rfl hl.1 rfl (Nat.le_of_ble_eq_true rfl) ⟨Nat.le_of_ble_eq_true rfl, Nat.le_of_ble_eq_true rfl⟩ d_DR_edition_1 ⟨by first | exact Nat.le_of_ble_eq_true rfl | ((try dsimp only); omega), by first | exact Nat.le_of_ble_eq_true rfl | ((try dsimp only); omega)⟩) (fun r_1 h8 H9 locs hp9 hX9 hz9 hI => ?_)
  obtain ⟨rfl, e9⟩ := hp9
  rw [e9] at hI
  clear hX9 e9
  refine f_asi (day_1 (by omega)) ?_
  refine lv_if_ne (tgt := 9) hx hb d_DR_edition_4 (by decide) (fun c_2 => ?_) (fun c_2 => absurd c_2 (by decide))
  refine lv_aload_n hx hb d_DR_edition_9 rfl (lv_at hl 0 rfl) ?_
  refine f_get (C := "DutyRules") (T := T_DR) (N := 10) hx hb (fun w q => hT w (s_DR w q)) hown hK hI g_X rfl 1 (by decide) (hT _ w_164) (fun _ q => q) rfl d_DR_edition_10 ?_
  refine lv_aload_n hx hb d_DR_edition_13 rfl (lv_at hl 0 rfl) ?_
  refine f_get (C := "DutyRules") (T := T_DR) (N := 10) hx hb (fun w q => hT w (s_DR w q)) hown hK hI g_X rfl 5 (by decide) (hT _ w_168) (fun _ q => q) rfl d_DR_edition_14 ?_
  refine lv_lload_n hx hb d_DR_edition_17 rfl (lv_at hl 1 rfl) ?_
  refine lv_l2i (v := nI d) hx hb d_DR_edition_18 (n_l2i _) ?_
  have hzA := hI.2.2.2.1
  refine f_calli hI (f_runV C hI (c_ED_add_ok l G h _ E ne ef rr rm hEd R d hc bd bne2) gm_ED_add w_551 w_552 w_550 g_E rfl rfl rfl hl.1 rfl (Nat.le_of_ble_eq_true rfl) ⟨Nat.le_of_ble_eq_true rfl, Nat.le_of_ble_eq_true rfl⟩ d_DR_edition_19 ⟨by first | exact Nat.le_of_ble_eq_true rfl | ((try dsimp only); omega), by first | exact Nat.le_of_ble_eq_true rfl | ((try dsimp only); omega)⟩) (fun r_3 h9 H9 locs hp9 hX9 hz9 hI => ?_)
  obtain ⟨rfl, hE9, hF9⟩ := hp9
  have hX := fX.tr (Nat.le_trans (Nat.le_of_eq hsz.symm) hzA) hX hX9
  exact f_iret C hr hI ⟨rfl, hE9, hF9⟩ hX (by (try dsimp only); omega) (by (try dsimp only); omega) d_DR_edition_22
theorem gm_DR_fact : gM y_DR_fact b_DR_fact 11 (some .boolean) 5 := ⟨w_557, w_1, ⟨by decide, by decide⟩, by decide +kernel⟩
set_option maxHeartbeats 4000000 in
set_option maxRecDepth 100000 in
/-- DR_fact  -/
theorem c_DR_fact_a (l : Launch) (G : gG) (h : fH) (sz : Nat) (X T E F D I R Wr : Nat) (wa : Int32) (nr lr : Option Nat) (g_X : h X = some (1, 0, .inr (0, [.ref T, .ref E, .ref F, .ref D, .ref I, .ref R, .ref Wr, .int wa, va_rf nr, va_rf lr]))) (lot kd : Int32) (dy ab be : Int64) (hbad : (lot < 0 ∨ 30 ≤ lot) ∨ (kd < 0 ∨ 6 ≤ kd) ∨ (dy < 0 ∨ 100000 < dy) ∨ be < 1 ∨ 100 < be ∨ ¬ ab - ab / be * be = 0) : cM l y_DR_fact b_DR_fact 11 (some .boolean) { frames := 3, cells := 1, slots := 4, locals := 68 } G [.ref X, .int lot, .int kd, .long dy, .long ab, .long be] h sz (cQi G h sz (fun z h' => z = 0 ∧ h' = h)) := by
  refine f_start (by decide) (Nat.le_of_ble_eq_true rfl) ?_
  intro p e s m below meth c ls C hr hsz hI hl
  obtain ⟨hx, hb, hml, hown, hnm, hlk, hT, hG, hZ⟩ := id C
  have hK := hG.1
  have hX : fX h sz h := fX.rf
  have hl : lv_has ls 11 [(0, .ref X), (1, .int lot), (2, .int kd), (3, .long dy), (5, .long ab), (7, .long be)] := hl
  refine lv_iload_n hx hb d_DR_fact_0 rfl (lv_at hl 1 rfl) ?_
  refine f_calli hI (f_runS C hI (c_DR_isLot l G h _ lot) gm_DR_isLot w_559 w_558 rfl hl.1 rfl (Nat.le_of_ble_eq_true rfl) ⟨Nat.le_of_ble_eq_true rfl, Nat.le_of_ble_eq_true rfl⟩ d_DR_fact_1 ⟨by first | exact Nat.le_of_ble_eq_true rfl | ((try dsimp only); omega), by first | exact Nat.le_of_ble_eq_true rfl | ((try dsimp only); omega)⟩) (fun r_1 h8 H9 locs hp9 hX9 hz9 hI => ?_)
  obtain ⟨rfl, e9⟩ := hp9
  rw [e9] at hI
  clear hX9 e9
  refine lv_if_eq (tgt := 21) hx hb d_DR_fact_4 (by decide) (fun c_2 => ?_) (fun c_2 => ?_)
  · skip
    refine lv_iconst (v := 0) hx hb d_DR_fact_21 (by decide) ?_
    exact f_zret C hr rfl hI ⟨rfl, rfl⟩ hX (by (try dsimp only); omega) (by (try dsimp only); omega) d_DR_fact_22
  · skip
    refine lv_iload_n hx hb d_DR_fact_7 rfl (lv_at hl 2 rfl) ?_
    refine f_calli hI (f_runS C hI (c_DR_isFactKind l G h _ kd) gm_DR_isFactKind w_562 w_561 rfl hl.1 rfl (Nat.le_of_ble_eq_true rfl) ⟨Nat.le_of_ble_eq_true rfl, Nat.le_of_ble_eq_true rfl⟩ d_DR_fact_8 ⟨by first | exact Nat.le_of_ble_eq_true rfl | ((try dsimp only); omega), by first | exact Nat.le_of_ble_eq_true rfl | ((try dsimp only); omega)⟩) (fun r_3 h8 H9 locs hp9 hX9 hz9 hI => ?_)
    obtain ⟨rfl, e9⟩ := hp9
    rw [e9] at hI
    clear hX9 e9
    refine lv_if_eq (tgt := 21) hx hb d_DR_fact_11 (by decide) (fun c_4 => ?_) (fun c_4 => ?_)
    · skip
      refine lv_iconst (v := 0) hx hb d_DR_fact_21 (by decide) ?_
      exact f_zret C hr rfl hI ⟨rfl, rfl⟩ hX (by (try dsimp only); omega) (by (try dsimp only); omega) d_DR_fact_22
    · skip
      refine lv_lload_n hx hb d_DR_fact_14 rfl (lv_at hl 3 rfl) ?_
      refine f_calli hI (f_runS C hI (c_DR_isDay l G h _ dy) gm_DR_isDay w_547 w_546 rfl hl.1 rfl (Nat.le_of_ble_eq_true rfl) ⟨Nat.le_of_ble_eq_true rfl, Nat.le_of_ble_eq_true rfl⟩ d_DR_fact_15 ⟨by first | exact Nat.le_of_ble_eq_true rfl | ((try dsimp only); omega), by first | exact Nat.le_of_ble_eq_true rfl | ((try dsimp only); omega)⟩) (fun r_5 h8 H9 locs hp9 hX9 hz9 hI => ?_)
      obtain ⟨rfl, e9⟩ := hp9
      rw [e9] at hI
      clear hX9 e9
      refine lv_if_ne (tgt := 23) hx hb d_DR_fact_18 (by decide) (fun c_6 => ?_) (fun c_6 => ?_)
      · skip
        refine lv_lload hx hb d_DR_fact_23 (lv_at hl 5 rfl) ?_
        refine lv_lconst (v := 1) hx hb d_DR_fact_25 (by decide) ?_
        refine f_lc_lt (tgt := 49) hx hb d_DR_fact_26 d_DR_fact_27 (by decide) (fun c_7 => ?_) (fun c_7 => ?_)
        · skip
          refine lv_iconst (v := 0) hx hb d_DR_fact_49 (by decide) ?_
          exact f_zret C hr rfl hI ⟨rfl, rfl⟩ hX (by (try dsimp only); omega) (by (try dsimp only); omega) d_DR_fact_50
        · skip
          refine lv_lload hx hb d_DR_fact_30 (lv_at hl 5 rfl) ?_
          refine lv_ldc2 (v := 100) hx hb hown (hT _ w_564) d_DR_fact_32 ?_
          refine f_lc_gt (tgt := 49) hx hb d_DR_fact_35 d_DR_fact_36 (by decide) (fun c_8 => ?_) (fun c_8 => ?_)
          · skip
            refine lv_iconst (v := 0) hx hb d_DR_fact_49 (by decide) ?_
            exact f_zret C hr rfl hI ⟨rfl, rfl⟩ hX (by (try dsimp only); omega) (by (try dsimp only); omega) d_DR_fact_50
          · skip
            refine lv_lload hx hb d_DR_fact_39 (lv_at hl 4 rfl) ?_
            refine lv_lload hx hb d_DR_fact_41 (lv_at hl 5 rfl) ?_
            refine lv_lrem hx hb d_DR_fact_43 (fun q => c_7 (by rw [q]; decide)) ?_
            refine lv_lconst (v := 0) hx hb d_DR_fact_44 (by decide) ?_
            refine f_lc_eq (tgt := 51) hx hb d_DR_fact_45 d_DR_fact_46 (by decide) (fun c_9 => ?_) (fun c_9 => ?_)
            · skip
              exfalso
              rcases hbad with q | q | q | q | q | q
              · exact rng_no c_2 q
              · exact rng_no c_4 q
              · exact day_no c_6 q
              · exact c_7 q
              · exact c_8 q
              · exact q c_9
            · skip
              refine lv_iconst (v := 0) hx hb d_DR_fact_49 (by decide) ?_
              exact f_zret C hr rfl hI ⟨rfl, rfl⟩ hX (by (try dsimp only); omega) (by (try dsimp only); omega) d_DR_fact_50
      · skip
        refine lv_iconst (v := 0) hx hb d_DR_fact_21 (by decide) ?_
        exact f_zret C hr rfl hI ⟨rfl, rfl⟩ hX (by (try dsimp only); omega) (by (try dsimp only); omega) d_DR_fact_22
set_option maxHeartbeats 4000000 in
set_option maxRecDepth 100000 in
/-- DR_fact  -/
theorem c_DR_fact_b (l : Launch) (G : gG) (h : fH) (sz : Nat) (X T E F D I R Wr : Nat) (wa : Int32) (nr lr : Option Nat) (g_X : h X = some (1, 0, .inr (0, [.ref T, .ref E, .ref F, .ref D, .ref I, .ref R, .ref Wr, .int wa, va_rf nr, va_rf lr]))) (lo ki d : Nat) (ab be : Int64) (blo : lo < 30) (bki : ki < 6) (bd : d ≤ 100000) (be1 : ¬ be < 1) (be2 : ¬ 100 < be) (hre : ab - ab / be * be = 0) (hneg : ab / be < 0 ∨ lN (mostN ki) < ab / be) : cM l y_DR_fact b_DR_fact 11 (some .boolean) { frames := 3, cells := 1, slots := 4, locals := 68 } G [.ref X, .int (nI lo), .int (nI ki), .long (lN d), .long ab, .long be] h sz (cQi G h sz (fun z h' => z = 0 ∧ h' = h)) := by
  refine f_start (by decide) (Nat.le_of_ble_eq_true rfl) ?_
  intro p e s m below meth c ls C hr hsz hI hl
  obtain ⟨hx, hb, hml, hown, hnm, hlk, hT, hG, hZ⟩ := id C
  have hK := hG.1
  have hX : fX h sz h := fX.rf
  have hl : lv_has ls 11 [(0, .ref X), (1, .int (nI lo)), (2, .int (nI ki)), (3, .long (lN d)), (5, .long ab), (7, .long be)] := hl
  have hbz : ¬ be = 0 := fun q => be1 (by rw [q]; decide)
  have hmo := mostN_le ki
  refine lv_iload_n hx hb d_DR_fact_0 rfl (lv_at hl 1 rfl) ?_
  refine f_calli hI (f_runS C hI (c_DR_isLot l G h _ (nI lo)) gm_DR_isLot w_559 w_558 rfl hl.1 rfl (Nat.le_of_ble_eq_true rfl) ⟨Nat.le_of_ble_eq_true rfl, Nat.le_of_ble_eq_true rfl⟩ d_DR_fact_1 ⟨by first | exact Nat.le_of_ble_eq_true rfl | ((try dsimp only); omega), by first | exact Nat.le_of_ble_eq_true rfl | ((try dsimp only); omega)⟩) (fun r_1 h8 H9 locs hp9 hX9 hz9 hI => ?_)
  obtain ⟨rfl, e9⟩ := hp9
  rw [e9] at hI
  clear hX9 e9
  refine f_asi (lot_1 (by omega)) ?_
  refine lv_if_eq (tgt := 21) hx hb d_DR_fact_4 (by decide) (fun c_2 => absurd c_2 (by decide)) (fun c_2 => ?_)
  refine lv_iload_n hx hb d_DR_fact_7 rfl (lv_at hl 2 rfl) ?_
  refine f_calli hI (f_runS C hI (c_DR_isFactKind l G h _ (nI ki)) gm_DR_isFactKind w_562 w_561 rfl hl.1 rfl (Nat.le_of_ble_eq_true rfl) ⟨Nat.le_of_ble_eq_true rfl, Nat.le_of_ble_eq_true rfl⟩ d_DR_fact_8 ⟨by first | exact Nat.le_of_ble_eq_true rfl | ((try dsimp only); omega), by first | exact Nat.le_of_ble_eq_true rfl | ((try dsimp only); omega)⟩) (fun r_3 h8 H9 locs hp9 hX9 hz9 hI => ?_)
  obtain ⟨rfl, e9⟩ := hp9
  rw [e9] at hI
  clear hX9 e9
  refine f_asi (kin_1 (by omega)) ?_
  refine lv_if_eq (tgt := 21) hx hb d_DR_fact_11 (by decide) (fun c_4 => absurd c_4 (by decide)) (fun c_4 => ?_)
  refine lv_lload_n hx hb d_DR_fact_14 rfl (lv_at hl 3 rfl) ?_
  refine f_calli hI (f_runS C hI (c_DR_isDay l G h _ (lN d)) gm_DR_isDay w_547 w_546 rfl hl.1 rfl (Nat.le_of_ble_eq_true rfl) ⟨Nat.le_of_ble_eq_true rfl, Nat.le_of_ble_eq_true rfl⟩ d_DR_fact_15 ⟨by first | exact Nat.le_of_ble_eq_true rfl | ((try dsimp only); omega), by first | exact Nat.le_of_ble_eq_true rfl | ((try dsimp only); omega)⟩) (fun r_5 h8 H9 locs hp9 hX9 hz9 hI => ?_)
  obtain ⟨rfl, e9⟩ := hp9
  rw [e9] at hI
  clear hX9 e9
  refine f_asi (day_1 (by omega)) ?_
  refine lv_if_ne (tgt := 23) hx hb d_DR_fact_18 (by decide) (fun c_6 => ?_) (fun c_6 => absurd c_6 (by decide))
  refine lv_lload hx hb d_DR_fact_23 (lv_at hl 5 rfl) ?_
  refine lv_lconst (v := 1) hx hb d_DR_fact_25 (by decide) ?_
  refine f_lc_lt (tgt := 49) hx hb d_DR_fact_26 d_DR_fact_27 (by decide) (fun c_7 => absurd c_7 be1) (fun c_7 => ?_)
  refine lv_lload hx hb d_DR_fact_30 (lv_at hl 5 rfl) ?_
  refine lv_ldc2 (v := 100) hx hb hown (hT _ w_564) d_DR_fact_32 ?_
  refine f_lc_gt (tgt := 49) hx hb d_DR_fact_35 d_DR_fact_36 (by decide) (fun c_8 => absurd c_8 be2) (fun c_8 => ?_)
  refine lv_lload hx hb d_DR_fact_39 (lv_at hl 4 rfl) ?_
  refine lv_lload hx hb d_DR_fact_41 (lv_at hl 5 rfl) ?_
  refine lv_lrem hx hb d_DR_fact_43 hbz ?_
  refine lv_lconst (v := 0) hx hb d_DR_fact_44 (by decide) ?_
  refine f_lc_eq (tgt := 51) hx hb d_DR_fact_45 d_DR_fact_46 (by decide) (fun c_9 => ?_) (fun c_9 => absurd hre c_9)
  refine lv_lload hx hb d_DR_fact_51 (lv_at hl 4 rfl) ?_
  refine lv_lload hx hb d_DR_fact_53 (lv_at hl 5 rfl) ?_
  refine lv_ldiv hx hb d_DR_fact_55 hbz ?_
  refine lv_lstore (lv' := [(9, .long (ab / be)), (0, .ref X), (1, .int (nI lo)), (2, .int (nI ki)), (3, .long (lN d)), (5, .long ab), (7, .long be)]) hx hb d_DR_fact_56 hl (by decide) rfl (fun ls hl => ?_)
  refine lv_lload hx hb d_DR_fact_58 (lv_at hl 0 rfl) ?_
  refine lv_lconst (v := 0) hx hb d_DR_fact_60 (by decide) ?_
  refine f_lc_lt (tgt := 76) hx hb d_DR_fact_61 d_DR_fact_62 (by decide) (fun c_10 => ?_) (fun c_10 => ?_)
  · skip
    refine lv_iconst (v := 0) hx hb d_DR_fact_76 (by decide) ?_
    exact f_zret C hr rfl hI ⟨rfl, rfl⟩ hX (by (try dsimp only); omega) (by (try dsimp only); omega) d_DR_fact_77
  · skip
    refine lv_lload hx hb d_DR_fact_65 (lv_at hl 0 rfl) ?_
    refine lv_iload_n hx hb d_DR_fact_67 rfl (lv_at hl 3 rfl) ?_
    refine f_calli hI (f_runS C hI (c_DR_greatestValue l G h _ (nI ki)) gm_DR_greatestValue w_566 w_565 rfl hl.1 rfl (Nat.le_of_ble_eq_true rfl) ⟨Nat.le_of_ble_eq_true rfl, Nat.le_of_ble_eq_true rfl⟩ d_DR_fact_68 ⟨by first | exact Nat.le_of_ble_eq_true rfl | ((try dsimp only); omega), by first | exact Nat.le_of_ble_eq_true rfl | ((try dsimp only); omega)⟩) (fun r_11 h8 H9 locs hp9 hX9 hz9 hI => ?_)
    obtain ⟨rfl, e9⟩ := hp9
    rw [e9] at hI
    clear hX9 e9
    refine f_asi (gv_n bki) ?_
    refine lv_i2l (v := lN (mostN ki)) hx hb d_DR_fact_71 (n_i2l (by omega)) ?_
    refine f_lc_le (tgt := 78) hx hb d_DR_fact_72 d_DR_fact_73 (by decide) (fun c_12 => ?_) (fun c_12 => ?_)
    · skip
      exfalso
      rcases hneg with q | q
      · exact c_10 q
      · exact absurd c_12 (fun z => absurd q (l_nlt z))
    · skip
      refine lv_iconst (v := 0) hx hb d_DR_fact_76 (by decide) ?_
      exact f_zret C hr rfl hI ⟨rfl, rfl⟩ hX (by (try dsimp only); omega) (by (try dsimp only); omega) d_DR_fact_77
set_option maxHeartbeats 4000000 in
set_option maxRecDepth 100000 in
/-- DR_fact  -/
theorem c_DR_fact_full (l : Launch) (G : gG) (h : fH) (sz : Nat) (X T E F D I R Wr : Nat) (wa : Int32) (nr lr : Option Nat) (g_X : h X = some (1, 0, .inr (0, [.ref T, .ref E, .ref F, .ref D, .ref I, .ref R, .ref Wr, .int wa, va_rf nr, va_rf lr]))) (A : Nat) (fa : Nat → Nat) (gq : Nat → Option Nat) (nf la : Nat) (fl fk fd fw fv : Nat → Nat) (hC : cFo G h F A fa gq nf la fl fk fd fw fv) (lo ki d : Nat) (ab be : Int64) (blo : lo < 30) (bki : ki < 6) (bd : d ≤ 100000) (be1 : ¬ be < 1) (be2 : ¬ 100 < be) (hre : ab - ab / be * be = 0) (v : Nat) (hq9 : ab / be = lN v) (bv : v ≤ mostN ki) (hful : nf = 300) : cM l y_DR_fact b_DR_fact 11 (some .boolean) { frames := 3, cells := 1, slots := 4, locals := 68 } G [.ref X, .int (nI lo), .int (nI ki), .long (lN d), .long ab, .long be] h sz (cQi G h sz (fun z h' => z = 0 ∧ h' = h)) := by
  refine f_start (by decide) (Nat.le_of_ble_eq_true rfl) ?_
  intro p e s m below meth c ls C hr hsz hI hl
  obtain ⟨hx, hb, hml, hown, hnm, hlk, hT, hG, hZ⟩ := id C
  have hK := hG.1
  have hX : fX h sz h := fX.rf
  have hl : lv_has ls 11 [(0, .ref X), (1, .int (nI lo)), (2, .int (nI ki)), (3, .long (lN d)), (5, .long ab), (7, .long be)] := hl
  have hbz : ¬ be = 0 := fun q => be1 (by rw [q]; decide)
  have hmo := mostN_le ki
  obtain ⟨g_F, _⟩ := id hC
  refine lv_iload_n hx hb d_DR_fact_0 rfl (lv_at hl 1 rfl) ?_
  refine f_calli hI (f_runS C hI (c_DR_isLot l G h _ (nI lo)) gm_DR_isLot w_559 w_558 rfl hl.1 rfl (Nat.le_of_ble_eq_true rfl) ⟨Nat.le_of_ble_eq_true rfl, Nat.le_of_ble_eq_true rfl⟩ d_DR_fact_1 ⟨by first | exact Nat.le_of_ble_eq_true rfl | ((try dsimp only); omega), by first | exact Nat.le_of_ble_eq_true rfl | ((try dsimp only); omega)⟩) (fun r_1 h8 H9 locs hp9 hX9 hz9 hI => ?_)
  obtain ⟨rfl, e9⟩ := hp9
  rw [e9] at hI
  clear hX9 e9
  refine f_asi (lot_1 (by omega)) ?_
  refine lv_if_eq (tgt := 21) hx hb d_DR_fact_4 (by decide) (fun c_2 => absurd c_2 (by decide)) (fun c_2 => ?_)
  refine lv_iload_n hx hb d_DR_fact_7 rfl (lv_at hl 2 rfl) ?_
  refine f_calli hI (f_runS C hI (c_DR_isFactKind l G h _ (nI ki)) gm_DR_isFactKind w_562 w_561 rfl hl.1 rfl (Nat.le_of_ble_eq_true rfl) ⟨Nat.le_of_ble_eq_true rfl, Nat.le_of_ble_eq_true rfl⟩ d_DR_fact_8 ⟨by first | exact Nat.le_of_ble_eq_true rfl | ((try dsimp only); omega), by first | exact Nat.le_of_ble_eq_true rfl | ((try dsimp only); omega)⟩) (fun r_3 h8 H9 locs hp9 hX9 hz9 hI => ?_)
  obtain ⟨rfl, e9⟩ := hp9
  rw [e9] at hI
  clear hX9 e9
  refine f_asi (kin_1 (by omega)) ?_
  refine lv_if_eq (tgt := 21) hx hb d_DR_fact_11 (by decide) (fun c_4 => absurd c_4 (by decide)) (fun c_4 => ?_)
  refine lv_lload_n hx hb d_DR_fact_14 rfl (lv_at hl 3 rfl) ?_
  refine f_calli hI (f_runS C hI (c_DR_isDay l G h _ (lN d)) gm_DR_isDay w_547 w_546 rfl hl.1 rfl (Nat.le_of_ble_eq_true rfl) ⟨Nat.le_of_ble_eq_true rfl, Nat.le_of_ble_eq_true rfl⟩ d_DR_fact_15 ⟨by first | exact Nat.le_of_ble_eq_true rfl | ((try dsimp only); omega), by first | exact Nat.le_of_ble_eq_true rfl | ((try dsimp only); omega)⟩) (fun r_5 h8 H9 locs hp9 hX9 hz9 hI => ?_)
  obtain ⟨rfl, e9⟩ := hp9
  rw [e9] at hI
  clear hX9 e9
  refine f_asi (day_1 (by omega)) ?_
  refine lv_if_ne (tgt := 23) hx hb d_DR_fact_18 (by decide) (fun c_6 => ?_) (fun c_6 => absurd c_6 (by decide))
  refine lv_lload hx hb d_DR_fact_23 (lv_at hl 5 rfl) ?_
  refine lv_lconst (v := 1) hx hb d_DR_fact_25 (by decide) ?_
  refine f_lc_lt (tgt := 49) hx hb d_DR_fact_26 d_DR_fact_27 (by decide) (fun c_7 => absurd c_7 be1) (fun c_7 => ?_)
  refine lv_lload hx hb d_DR_fact_30 (lv_at hl 5 rfl) ?_
  refine lv_ldc2 (v := 100) hx hb hown (hT _ w_564) d_DR_fact_32 ?_
  refine f_lc_gt (tgt := 49) hx hb d_DR_fact_35 d_DR_fact_36 (by decide) (fun c_8 => absurd c_8 be2) (fun c_8 => ?_)
  refine lv_lload hx hb d_DR_fact_39 (lv_at hl 4 rfl) ?_
  refine lv_lload hx hb d_DR_fact_41 (lv_at hl 5 rfl) ?_
  refine lv_lrem hx hb d_DR_fact_43 hbz ?_
  refine lv_lconst (v := 0) hx hb d_DR_fact_44 (by decide) ?_
  refine f_lc_eq (tgt := 51) hx hb d_DR_fact_45 d_DR_fact_46 (by decide) (fun c_9 => ?_) (fun c_9 => absurd hre c_9)
  refine lv_lload hx hb d_DR_fact_51 (lv_at hl 4 rfl) ?_
  refine lv_lload hx hb d_DR_fact_53 (lv_at hl 5 rfl) ?_
  refine lv_ldiv hx hb d_DR_fact_55 hbz ?_
  refine f_asl hq9 ?_
  refine lv_lstore (lv' := [(9, .long (lN v)), (0, .ref X), (1, .int (nI lo)), (2, .int (nI ki)), (3, .long (lN d)), (5, .long ab), (7, .long be)]) hx hb d_DR_fact_56 hl (by decide) rfl (fun ls hl => ?_)
  refine lv_lload hx hb d_DR_fact_58 (lv_at hl 0 rfl) ?_
  refine lv_lconst (v := 0) hx hb d_DR_fact_60 (by decide) ?_
  refine f_lc_lt (tgt := 76) hx hb d_DR_fact_61 d_DR_fact_62 (by decide) (fun c_10 => absurd c_10 (fun z => absurd ((pk_lLT (a := v) (b := 0) (by omega) (by decide)).mp z) (by omega))) (fun c_10 => ?_)
  refine lv_lload hx hb d_DR_fact_65 (lv_at hl 0 rfl) ?_
  refine lv_iload_n hx hb d_DR_fact_67 rfl (lv_at hl 3 rfl) ?_
  refine f_calli hI (f_runS C hI (c_DR_greatestValue l G h _ (nI ki)) gm_DR_greatestValue w_566 w_565 rfl hl.1 rfl (Nat.le_of_ble_eq_true rfl) ⟨Nat.le_of_ble_eq_true rfl, Nat.le_of_ble_eq_true rfl⟩ d_DR_fact_68 ⟨by first | exact Nat.le_of_ble_eq_true rfl | ((try dsimp only); omega), by first | exact Nat.le_of_ble_eq_true rfl | ((try dsimp only); omega)⟩) (fun r_11 h8 H9 locs hp9 hX9 hz9 hI => ?_)
  obtain ⟨rfl, e9⟩ := hp9
  rw [e9] at hI
  clear hX9 e9
  refine f_asi (gv_n bki) ?_
  refine lv_i2l (v := lN (mostN ki)) hx hb d_DR_fact_71 (n_i2l (by omega)) ?_
  refine f_lc_le (tgt := 78) hx hb d_DR_fact_72 d_DR_fact_73 (by decide) (fun c_12 => ?_) (fun c_12 => absurd ((pk_lLE (a := v) (b := mostN ki) (by omega) (by omega)).mpr bv) c_12)
  refine lv_aload_n hx hb d_DR_fact_78 rfl (lv_at hl 1 rfl) ?_
  refine f_get (C := "DutyRules") (T := T_DR) (N := 10) hx hb (fun w q => hT w (s_DR w q)) hown hK hI g_X rfl 2 (by decide) (hT _ w_165) (fun _ q => q) rfl d_DR_fact_79 ?_
  refine lv_iload_n hx hb d_DR_fact_82 rfl (lv_at hl 2 rfl) ?_
  refine lv_iload_n hx hb d_DR_fact_83 rfl (lv_at hl 3 rfl) ?_
  refine lv_lload_n hx hb d_DR_fact_84 rfl (lv_at hl 4 rfl) ?_
  refine lv_l2i (v := nI d) hx hb d_DR_fact_85 (n_l2i _) ?_
  refine lv_lload hx hb d_DR_fact_86 (lv_at hl 0 rfl) ?_
  refine lv_l2i (v := nI v) hx hb d_DR_fact_88 (n_l2i _) ?_
  have hzA := hI.2.2.2.1
  refine f_calli hI (f_runV C hI (c_FS_add_full l G h _ F A fa gq nf la fl fk fd fw fv hC lo ki blo bki d v bd bv hful) gm_FS_add w_571 w_572 w_570 g_F rfl rfl rfl hl.1 rfl (Nat.le_of_ble_eq_true rfl) ⟨Nat.le_of_ble_eq_true rfl, Nat.le_of_ble_eq_true rfl⟩ d_DR_fact_89 ⟨by first | exact Nat.le_of_ble_eq_true rfl | ((try dsimp only); omega), by first | exact Nat.le_of_ble_eq_true rfl | ((try dsimp only); omega)⟩) (fun r_13 h8 H9 locs hp9 hX9 hz9 hI => ?_)
  obtain ⟨rfl, e9f⟩ := hp9
  rw [e9f] at hI
  exact f_zret C hr rfl hI ⟨rfl, rfl⟩ hX (by (try dsimp only); omega) (by (try dsimp only); omega) d_DR_fact_92
set_option maxHeartbeats 4000000 in
set_option maxRecDepth 100000 in
/-- DR_fact  -/
theorem c_DR_fact_ok (l : Launch) (G : gG) (h : fH) (sz : Nat) (X T E F D I R Wr : Nat) (wa : Int32) (nr lr : Option Nat) (g_X : h X = some (1, 0, .inr (0, [.ref T, .ref E, .ref F, .ref D, .ref I, .ref R, .ref Wr, .int wa, va_rf nr, va_rf lr]))) (A : Nat) (fa : Nat → Nat) (gq : Nat → Option Nat) (nf la : Nat) (fl fk fd fw fv : Nat → Nat) (hC : cFo G h F A fa gq nf la fl fk fd fw fv) (lo ki d : Nat) (ab be : Int64) (blo : lo < 30) (bki : ki < 6) (bd : d ≤ 100000) (be1 : ¬ be < 1) (be2 : ¬ 100 < be) (hre : ab - ab / be * be = 0) (v : Nat) (hq9 : ab / be = lN v) (bv : v ≤ mostN ki) (bnf2 : nf < 300) : cM l y_DR_fact b_DR_fact 11 (some .boolean) { frames := 3, cells := 1, slots := 4, locals := 68 } G [.ref X, .int (nI lo), .int (nI ki), .long (lN d), .long ab, .long be] h sz (cQi G h sz (fun z h' => z = 1 ∧ ∃ q, cFo G h' F A (va_up fa nf q) (va_up gq (lo * 6 + ki) (some q)) (nf + 1) (max la d) (va_up fl nf lo) (va_up fk nf ki) (va_up fd nf d) (va_up fw nf d) (va_up fv nf v) ∧ fF (inR [10, 11, 12]) h h')) := by
  refine f_start (by decide) (Nat.le_of_ble_eq_true rfl) ?_
  intro p e s m below meth c ls C hr hsz hI hl
  obtain ⟨hx, hb, hml, hown, hnm, hlk, hT, hG, hZ⟩ := id C
  have hK := hG.1
  have hX : fX h sz h := fX.rf
  have hl : lv_has ls 11 [(0, .ref X), (1, .int (nI lo)), (2, .int (nI ki)), (3, .long (lN d)), (5, .long ab), (7, .long be)] := hl
  have hbz : ¬ be = 0 := fun q => be1 (by rw [q]; decide)
  have hmo := mostN_le ki
  obtain ⟨g_F, _⟩ := id hC
  refine lv_iload_n hx hb d_DR_fact_0 rfl (lv_at hl 1 rfl) ?_
  refine f_calli hI (f_runS C hI (c_DR_isLot l G h _ (nI lo)) gm_DR_isLot w_559 w_558 rfl hl.1 rfl (Nat.le_of_ble_eq_true rfl) ⟨Nat.le_of_ble_eq_true rfl, Nat.le_of_ble_eq_true rfl⟩ d_DR_fact_1 ⟨by first | exact Nat.le_of_ble_eq_true rfl | ((try dsimp only); omega), by first | exact Nat.le_of_ble_eq_true rfl | ((try dsimp only); omega)⟩) (fun r_1 h8 H9 locs hp9 hX9 hz9 hI => ?_)
  obtain ⟨rfl, e9⟩ := hp9
  rw [e9] at hI
  clear hX9 e9
  refine f_asi (lot_1 (by omega)) ?_
  refine lv_if_eq (tgt := 21) hx hb d_DR_fact_4 (by decide) (fun c_2 => absurd c_2 (by decide)) (fun c_2 => ?_)
  refine lv_iload_n hx hb d_DR_fact_7 rfl (lv_at hl 2 rfl) ?_
  refine f_calli hI (f_runS C hI (c_DR_isFactKind l G h _ (nI ki)) gm_DR_isFactKind w_562 w_561 rfl hl.1 rfl (Nat.le_of_ble_eq_true rfl) ⟨Nat.le_of_ble_eq_true rfl, Nat.le_of_ble_eq_true rfl⟩ d_DR_fact_8 ⟨by first | exact Nat.le_of_ble_eq_true rfl | ((try dsimp only); omega), by first | exact Nat.le_of_ble_eq_true rfl | ((try dsimp only); omega)⟩) (fun r_3 h8 H9 locs hp9 hX9 hz9 hI => ?_)
  obtain ⟨rfl, e9⟩ := hp9
  rw [e9] at hI
  clear hX9 e9
  refine f_asi (kin_1 (by omega)) ?_
  refine lv_if_eq (tgt := 21) hx hb d_DR_fact_11 (by decide) (fun c_4 => absurd c_4 (by decide)) (fun c_4 => ?_)
  refine lv_lload_n hx hb d_DR_fact_14 rfl (lv_at hl 3 rfl) ?_
  refine f_calli hI (f_runS C hI (c_DR_isDay l G h _ (lN d)) gm_DR_isDay w_547 w_546 rfl hl.1 rfl (Nat.le_of_ble_eq_true rfl) ⟨Nat.le_of_ble_eq_true rfl, Nat.le_of_ble_eq_true rfl⟩ d_DR_fact_15 ⟨by first | exact Nat.le_of_ble_eq_true rfl | ((try dsimp only); omega), by first | exact Nat.le_of_ble_eq_true rfl | ((try dsimp only); omega)⟩) (fun r_5 h8 H9 locs hp9 hX9 hz9 hI => ?_)
  obtain ⟨rfl, e9⟩ := hp9
  rw [e9] at hI
  clear hX9 e9
  refine f_asi (day_1 (by omega)) ?_
  refine lv_if_ne (tgt := 23) hx hb d_DR_fact_18 (by decide) (fun c_6 => ?_) (fun c_6 => absurd c_6 (by decide))
  refine lv_lload hx hb d_DR_fact_23 (lv_at hl 5 rfl) ?_
  refine lv_lconst (v := 1) hx hb d_DR_fact_25 (by decide) ?_
  refine f_lc_lt (tgt := 49) hx hb d_DR_fact_26 d_DR_fact_27 (by decide) (fun c_7 => absurd c_7 be1) (fun c_7 => ?_)
  refine lv_lload hx hb d_DR_fact_30 (lv_at hl 5 rfl) ?_
  refine lv_ldc2 (v := 100) hx hb hown (hT _ w_564) d_DR_fact_32 ?_
  refine f_lc_gt (tgt := 49) hx hb d_DR_fact_35 d_DR_fact_36 (by decide) (fun c_8 => absurd c_8 be2) (fun c_8 => ?_)
  refine lv_lload hx hb d_DR_fact_39 (lv_at hl 4 rfl) ?_
  refine lv_lload hx hb d_DR_fact_41 (lv_at hl 5 rfl) ?_
  refine lv_lrem hx hb d_DR_fact_43 hbz ?_
  refine lv_lconst (v := 0) hx hb d_DR_fact_44 (by decide) ?_
  refine f_lc_eq (tgt := 51) hx hb d_DR_fact_45 d_DR_fact_46 (by decide) (fun c_9 => ?_) (fun c_9 => absurd hre c_9)
  refine lv_lload hx hb d_DR_fact_51 (lv_at hl 4 rfl) ?_
  refine lv_lload hx hb d_DR_fact_53 (lv_at hl 5 rfl) ?_
  refine lv_ldiv hx hb d_DR_fact_55 hbz ?_
  refine f_asl hq9 ?_
  refine lv_lstore (lv' := [(9, .long (lN v)), (0, .ref X), (1, .int (nI lo)), (2, .int (nI ki)), (3, .long (lN d)), (5, .long ab), (7, .long be)]) hx hb d_DR_fact_56 hl (by decide) rfl (fun ls hl => ?_)
  refine lv_lload hx hb d_DR_fact_58 (lv_at hl 0 rfl) ?_
  refine lv_lconst (v := 0) hx hb d_DR_fact_60 (by decide) ?_
  refine f_lc_lt (tgt := 76) hx hb d_DR_fact_61 d_DR_fact_62 (by decide) (fun c_10 => absurd c_10 (fun z => absurd ((pk_lLT (a := v) (b := 0) (by omega) (by decide)).mp z) (by omega))) (fun c_10 => ?_)
  refine lv_lload hx hb d_DR_fact_65 (lv_at hl 0 rfl) ?_
  refine lv_iload_n hx hb d_DR_fact_67 rfl (lv_at hl 3 rfl) ?_
  refine f_calli hI (f_runS C hI (c_DR_greatestValue l G h _ (nI ki)) gm_DR_greatestValue w_566 w_565 rfl hl.1 rfl (Nat.le_of_ble_eq_true rfl) ⟨Nat.le_of_ble_eq_true rfl, Nat.le_of_ble_eq_true rfl⟩ d_DR_fact_68 ⟨by first | exact Nat.le_of_ble_eq_true rfl | ((try dsimp only); omega), by first | exact Nat.le_of_ble_eq_true rfl | ((try dsimp only); omega)⟩) (fun r_11 h8 H9 locs hp9 hX9 hz9 hI => ?_)
  obtain ⟨rfl, e9⟩ := hp9
  rw [e9] at hI
  clear hX9 e9
  refine f_asi (gv_n bki) ?_
  refine lv_i2l (v := lN (mostN ki)) hx hb d_DR_fact_71 (n_i2l (by omega)) ?_
  refine f_lc_le (tgt := 78) hx hb d_DR_fact_72 d_DR_fact_73 (by decide) (fun c_12 => ?_) (fun c_12 => absurd ((pk_lLE (a := v) (b := mostN ki) (by omega) (by omega)).mpr bv) c_12)
  refine lv_aload_n hx hb d_DR_fact_78 rfl (lv_at hl 1 rfl) ?_
  refine f_get (C := "DutyRules") (T := T_DR) (N := 10) hx hb (fun w q => hT w (s_DR w q)) hown hK hI g_X rfl 2 (by decide) (hT _ w_165) (fun _ q => q) rfl d_DR_fact_79 ?_
  refine lv_iload_n hx hb d_DR_fact_82 rfl (lv_at hl 2 rfl) ?_
  refine lv_iload_n hx hb d_DR_fact_83 rfl (lv_at hl 3 rfl) ?_
  refine lv_lload_n hx hb d_DR_fact_84 rfl (lv_at hl 4 rfl) ?_
  refine lv_l2i (v := nI d) hx hb d_DR_fact_85 (n_l2i _) ?_
  refine lv_lload hx hb d_DR_fact_86 (lv_at hl 0 rfl) ?_
  refine lv_l2i (v := nI v) hx hb d_DR_fact_88 (n_l2i _) ?_
  have hzA := hI.2.2.2.1
  refine f_calli hI (f_runV C hI (c_FS_add_ok l G h _ F A fa gq nf la fl fk fd fw fv hC lo ki blo bki d v bd bv bnf2) gm_FS_add w_571 w_572 w_570 g_F rfl rfl rfl hl.1 rfl (Nat.le_of_ble_eq_true rfl) ⟨Nat.le_of_ble_eq_true rfl, Nat.le_of_ble_eq_true rfl⟩ d_DR_fact_89 ⟨by first | exact Nat.le_of_ble_eq_true rfl | ((try dsimp only); omega), by first | exact Nat.le_of_ble_eq_true rfl | ((try dsimp only); omega)⟩) (fun r_13 h9 H9 locs hp9 hX9 hz9 hI => ?_)
  obtain ⟨rfl, q1, hC9, hF9⟩ := hp9
  have hX := fX.tr (Nat.le_trans (Nat.le_of_eq hsz.symm) hzA) hX hX9
  exact f_zret C hr rfl hI ⟨rfl, q1, hC9, hF9⟩ hX (by (try dsimp only); omega) (by (try dsimp only); omega) d_DR_fact_92
theorem gm_DR_told : gM y_DR_told b_DR_told 5 (some .boolean) 3 := ⟨w_605, w_1, ⟨by decide, by decide⟩, by decide +kernel⟩
set_option maxHeartbeats 4000000 in
set_option maxRecDepth 100000 in
/-- DR_told  -/
theorem c_DR_told_a (l : Launch) (G : gG) (h : fH) (sz : Nat) (X T E F D I R Wr : Nat) (wa : Int32) (nr lr : Option Nat) (g_X : h X = some (1, 0, .inr (0, [.ref T, .ref E, .ref F, .ref D, .ref I, .ref R, .ref Wr, .int wa, va_rf nr, va_rf lr]))) (lot kd : Int32) (dy : Int64) (hbad : (lot < 0 ∨ 30 ≤ lot) ∨ (kd < 0 ∨ 6 ≤ kd) ∨ (dy < 0 ∨ 100000 < dy)) : cM l y_DR_told b_DR_told 5 (some .boolean) { frames := 4, cells := 0, slots := 0, locals := 88 } G [.ref X, .int lot, .int kd, .long dy] h sz (cQi G h sz (fun z h' => z = 0 ∧ h' = h)) := by
  refine f_start (by decide) (Nat.le_of_ble_eq_true rfl) ?_
  intro p e s m below meth c ls C hr hsz hI hl
  obtain ⟨hx, hb, hml, hown, hnm, hlk, hT, hG, hZ⟩ := id C
  have hK := hG.1
  have hX : fX h sz h := fX.rf
  have hl : lv_has ls 5 [(0, .ref X), (1, .int lot), (2, .int kd), (3, .long dy)] := hl
  refine lv_iload_n hx hb d_DR_told_0 rfl (lv_at hl 1 rfl) ?_
  refine f_calli hI (f_runS C hI (c_DR_isLot l G h _ lot) gm_DR_isLot w_559 w_558 rfl hl.1 rfl (Nat.le_of_ble_eq_true rfl) ⟨Nat.le_of_ble_eq_true rfl, Nat.le_of_ble_eq_true rfl⟩ d_DR_told_1 ⟨by first | exact Nat.le_of_ble_eq_true rfl | ((try dsimp only); omega), by first | exact Nat.le_of_ble_eq_true rfl | ((try dsimp only); omega)⟩) (fun r_1 h8 H9 locs hp9 hX9 hz9 hI => ?_)
  obtain ⟨rfl, e9⟩ := hp9
  rw [e9] at hI
  clear hX9 e9
  refine lv_if_eq (tgt := 21) hx hb d_DR_told_4 (by decide) (fun c_2 => ?_) (fun c_2 => ?_)
  · skip
    refine lv_iconst (v := 0) hx hb d_DR_told_21 (by decide) ?_
    exact f_zret C hr rfl hI ⟨rfl, rfl⟩ hX (by (try dsimp only); omega) (by (try dsimp only); omega) d_DR_told_22
  · skip
    refine lv_iload_n hx hb d_DR_told_7 rfl (lv_at hl 2 rfl) ?_
    refine f_calli hI (f_runS C hI (c_DR_isFactKind l G h _ kd) gm_DR_isFactKind w_562 w_561 rfl hl.1 rfl (Nat.le_of_ble_eq_true rfl) ⟨Nat.le_of_ble_eq_true rfl, Nat.le_of_ble_eq_true rfl⟩ d_DR_told_8 ⟨by first | exact Nat.le_of_ble_eq_true rfl | ((try dsimp only); omega), by first | exact Nat.le_of_ble_eq_true rfl | ((try dsimp only); omega)⟩) (fun r_3 h8 H9 locs hp9 hX9 hz9 hI => ?_)
    obtain ⟨rfl, e9⟩ := hp9
    rw [e9] at hI
    clear hX9 e9
    refine lv_if_eq (tgt := 21) hx hb d_DR_told_11 (by decide) (fun c_4 => ?_) (fun c_4 => ?_)
    · skip
      refine lv_iconst (v := 0) hx hb d_DR_told_21 (by decide) ?_
      exact f_zret C hr rfl hI ⟨rfl, rfl⟩ hX (by (try dsimp only); omega) (by (try dsimp only); omega) d_DR_told_22
    · skip
      refine lv_lload_n hx hb d_DR_told_14 rfl (lv_at hl 3 rfl) ?_
      refine f_calli hI (f_runS C hI (c_DR_isDay l G h _ dy) gm_DR_isDay w_547 w_546 rfl hl.1 rfl (Nat.le_of_ble_eq_true rfl) ⟨Nat.le_of_ble_eq_true rfl, Nat.le_of_ble_eq_true rfl⟩ d_DR_told_15 ⟨by first | exact Nat.le_of_ble_eq_true rfl | ((try dsimp only); omega), by first | exact Nat.le_of_ble_eq_true rfl | ((try dsimp only); omega)⟩) (fun r_5 h8 H9 locs hp9 hX9 hz9 hI => ?_)
      obtain ⟨rfl, e9⟩ := hp9
      rw [e9] at hI
      clear hX9 e9
      refine lv_if_ne (tgt := 23) hx hb d_DR_told_18 (by decide) (fun c_6 => ?_) (fun c_6 => ?_)
      · skip
        exfalso
        rcases hbad with q | q | q
        · exact rng_no c_2 q
        · exact rng_no c_4 q
        · exact day_no c_6 q
      · skip
        refine lv_iconst (v := 0) hx hb d_DR_told_21 (by decide) ?_
        exact f_zret C hr rfl hI ⟨rfl, rfl⟩ hX (by (try dsimp only); omega) (by (try dsimp only); omega) d_DR_told_22
set_option maxHeartbeats 4000000 in
set_option maxRecDepth 100000 in
/-- DR_told  -/
theorem c_DR_told_no (l : Launch) (G : gG) (h : fH) (sz : Nat) (X T E F D I R Wr : Nat) (wa : Int32) (nr lr : Option Nat) (g_X : h X = some (1, 0, .inr (0, [.ref T, .ref E, .ref F, .ref D, .ref I, .ref R, .ref Wr, .int wa, va_rf nr, va_rf lr]))) (A : Nat) (fa : Nat → Nat) (gq : Nat → Option Nat) (nf la : Nat) (fl fk fd fw fv : Nat → Nat) (hC : cFo G h F A fa gq nf la fl fk fd fw fv) (lot kind : Nat) (blot : lot < 30) (bkind : kind < 6) (on : Nat) (bon : on ≤ 100000) (eL : lst (lQ fl fk lot kind) nf = none) : cM l y_DR_told b_DR_told 5 (some .boolean) { frames := 4, cells := 0, slots := 0, locals := 88 } G [.ref X, .int (nI lot), .int (nI kind), .long (lN on)] h sz (cQi G h sz (fun z h' => z = 0 ∧ h' = h)) := by
  refine f_start (by decide) (Nat.le_of_ble_eq_true rfl) ?_
  intro p e s m below meth c ls C hr hsz hI hl
  obtain ⟨hx, hb, hml, hown, hnm, hlk, hT, hG, hZ⟩ := id C
  have hK := hG.1
  have hX : fX h sz h := fX.rf
  have hl : lv_has ls 5 [(0, .ref X), (1, .int (nI lot)), (2, .int (nI kind)), (3, .long (lN on))] := hl
  obtain ⟨g_F, _⟩ := id hC
  refine lv_iload_n hx hb d_DR_told_0 rfl (lv_at hl 1 rfl) ?_
  refine f_calli hI (f_runS C hI (c_DR_isLot l G h _ (nI lot)) gm_DR_isLot w_559 w_558 rfl hl.1 rfl (Nat.le_of_ble_eq_true rfl) ⟨Nat.le_of_ble_eq_true rfl, Nat.le_of_ble_eq_true rfl⟩ d_DR_told_1 ⟨by first | exact Nat.le_of_ble_eq_true rfl | ((try dsimp only); omega), by first | exact Nat.le_of_ble_eq_true rfl | ((try dsimp only); omega)⟩) (fun r_1 h8 H9 locs hp9 hX9 hz9 hI => ?_)
  obtain ⟨rfl, e9⟩ := hp9
  rw [e9] at hI
  clear hX9 e9
  refine f_asi (lot_1 (by omega)) ?_
  refine lv_if_eq (tgt := 21) hx hb d_DR_told_4 (by decide) (fun c_2 => absurd c_2 (by decide)) (fun c_2 => ?_)
  refine lv_iload_n hx hb d_DR_told_7 rfl (lv_at hl 2 rfl) ?_
  refine f_calli hI (f_runS C hI (c_DR_isFactKind l G h _ (nI kind)) gm_DR_isFactKind w_562 w_561 rfl hl.1 rfl (Nat.le_of_ble_eq_true rfl) ⟨Nat.le_of_ble_eq_true rfl, Nat.le_of_ble_eq_true rfl⟩ d_DR_told_8 ⟨by first | exact Nat.le_of_ble_eq_true rfl | ((try dsimp only); omega), by first | exact Nat.le_of_ble_eq_true rfl | ((try dsimp only); omega)⟩) (fun r_3 h8 H9 locs hp9 hX9 hz9 hI => ?_)
  obtain ⟨rfl, e9⟩ := hp9
  rw [e9] at hI
  clear hX9 e9
  refine f_asi (kin_1 (by omega)) ?_
  refine lv_if_eq (tgt := 21) hx hb d_DR_told_11 (by decide) (fun c_4 => absurd c_4 (by decide)) (fun c_4 => ?_)
  refine lv_lload_n hx hb d_DR_told_14 rfl (lv_at hl 3 rfl) ?_
  refine f_calli hI (f_runS C hI (c_DR_isDay l G h _ (lN on)) gm_DR_isDay w_547 w_546 rfl hl.1 rfl (Nat.le_of_ble_eq_true rfl) ⟨Nat.le_of_ble_eq_true rfl, Nat.le_of_ble_eq_true rfl⟩ d_DR_told_15 ⟨by first | exact Nat.le_of_ble_eq_true rfl | ((try dsimp only); omega), by first | exact Nat.le_of_ble_eq_true rfl | ((try dsimp only); omega)⟩) (fun r_5 h8 H9 locs hp9 hX9 hz9 hI => ?_)
  obtain ⟨rfl, e9⟩ := hp9
  rw [e9] at hI
  clear hX9 e9
  refine f_asi (day_1 (by omega)) ?_
  refine lv_if_ne (tgt := 23) hx hb d_DR_told_18 (by decide) (fun c_6 => ?_) (fun c_6 => absurd c_6 (by decide))
  refine lv_aload_n hx hb d_DR_told_23 rfl (lv_at hl 0 rfl) ?_
  refine f_get (C := "DutyRules") (T := T_DR) (N := 10) hx hb (fun w q => hT w (s_DR w q)) hown hK hI g_X rfl 2 (by decide) (hT _ w_165) (fun _ q => q) rfl d_DR_told_24 ?_
  refine lv_iload_n hx hb d_DR_told_27 rfl (lv_at hl 1 rfl) ?_
  refine lv_iload_n hx hb d_DR_told_28 rfl (lv_at hl 2 rfl) ?_
  refine lv_lload_n hx hb d_DR_told_29 rfl (lv_at hl 3 rfl) ?_
  refine lv_l2i (v := nI on) hx hb d_DR_told_30 (n_l2i _) ?_
  have hzA := hI.2.2.2.1
  refine f_calli hI (f_runV C hI (c_FS_learnNewest_no l G h _ F A fa gq nf la fl fk fd fw fv hC lot kind blot bkind on bon eL) gm_FS_learnNewest w_607 w_608 w_606 g_F rfl rfl rfl hl.1 rfl (Nat.le_of_ble_eq_true rfl) ⟨Nat.le_of_ble_eq_true rfl, Nat.le_of_ble_eq_true rfl⟩ d_DR_told_31 ⟨by first | exact Nat.le_of_ble_eq_true rfl | ((try dsimp only); omega), by first | exact Nat.le_of_ble_eq_true rfl | ((try dsimp only); omega)⟩) (fun r_7 h8 H9 locs hp9 hX9 hz9 hI => ?_)
  obtain ⟨rfl, e9f⟩ := hp9
  rw [e9f] at hI
  exact f_zret C hr rfl hI ⟨rfl, rfl⟩ hX (by (try dsimp only); omega) (by (try dsimp only); omega) d_DR_told_34
set_option maxHeartbeats 4000000 in
set_option maxRecDepth 100000 in
/-- DR_told  -/
theorem c_DR_told_ok (l : Launch) (G : gG) (h : fH) (sz : Nat) (X T E F D I R Wr : Nat) (wa : Int32) (nr lr : Option Nat) (g_X : h X = some (1, 0, .inr (0, [.ref T, .ref E, .ref F, .ref D, .ref I, .ref R, .ref Wr, .int wa, va_rf nr, va_rf lr]))) (A : Nat) (fa : Nat → Nat) (gq : Nat → Option Nat) (nf la : Nat) (fl fk fd fw fv : Nat → Nat) (hC : cFo G h F A fa gq nf la fl fk fd fw fv) (lot kind : Nat) (blot : lot < 30) (bkind : kind < 6) (on : Nat) (bon : on ≤ 100000) (j : Nat) (eL : lst (lQ fl fk lot kind) nf = some j) : cM l y_DR_told b_DR_told 5 (some .boolean) { frames := 4, cells := 0, slots := 0, locals := 88 } G [.ref X, .int (nI lot), .int (nI kind), .long (lN on)] h sz (cQi G h sz (fun z h' => z = 1 ∧ cFo G h' F A fa gq nf (max la on) fl fk fd (va_up fw j on) fv ∧ fF (inR [10, 12]) h h')) := by
  refine f_start (by decide) (Nat.le_of_ble_eq_true rfl) ?_
  intro p e s m below meth c ls C hr hsz hI hl
  obtain ⟨hx, hb, hml, hown, hnm, hlk, hT, hG, hZ⟩ := id C
  have hK := hG.1
  have hX : fX h sz h := fX.rf
  have hl : lv_has ls 5 [(0, .ref X), (1, .int (nI lot)), (2, .int (nI kind)), (3, .long (lN on))] := hl
  obtain ⟨g_F, _⟩ := id hC
  refine lv_iload_n hx hb d_DR_told_0 rfl (lv_at hl 1 rfl) ?_
  refine f_calli hI (f_runS C hI (c_DR_isLot l G h _ (nI lot)) gm_DR_isLot w_559 w_558 rfl hl.1 rfl (Nat.le_of_ble_eq_true rfl) ⟨Nat.le_of_ble_eq_true rfl, Nat.le_of_ble_eq_true rfl⟩ d_DR_told_1 ⟨by first | exact Nat.le_of_ble_eq_true rfl | ((try dsimp only); omega), by first | exact Nat.le_of_ble_eq_true rfl | ((try dsimp only); omega)⟩) (fun r_1 h8 H9 locs hp9 hX9 hz9 hI => ?_)
  obtain ⟨rfl, e9⟩ := hp9
  rw [e9] at hI
  clear hX9 e9
  refine f_asi (lot_1 (by omega)) ?_
  refine lv_if_eq (tgt := 21) hx hb d_DR_told_4 (by decide) (fun c_2 => absurd c_2 (by decide)) (fun c_2 => ?_)
  refine lv_iload_n hx hb d_DR_told_7 rfl (lv_at hl 2 rfl) ?_
  refine f_calli hI (f_runS C hI (c_DR_isFactKind l G h _ (nI kind)) gm_DR_isFactKind w_562 w_561 rfl hl.1 rfl (Nat.le_of_ble_eq_true rfl) ⟨Nat.le_of_ble_eq_true rfl, Nat.le_of_ble_eq_true rfl⟩ d_DR_told_8 ⟨by first | exact Nat.le_of_ble_eq_true rfl | ((try dsimp only); omega), by first | exact Nat.le_of_ble_eq_true rfl | ((try dsimp only); omega)⟩) (fun r_3 h8 H9 locs hp9 hX9 hz9 hI => ?_)
  obtain ⟨rfl, e9⟩ := hp9
  rw [e9] at hI
  clear hX9 e9
  refine f_asi (kin_1 (by omega)) ?_
  refine lv_if_eq (tgt := 21) hx hb d_DR_told_11 (by decide) (fun c_4 => absurd c_4 (by decide)) (fun c_4 => ?_)
  refine lv_lload_n hx hb d_DR_told_14 rfl (lv_at hl 3 rfl) ?_
  refine f_calli hI (f_runS C hI (c_DR_isDay l G h _ (lN on)) gm_DR_isDay w_547 w_546 rfl hl.1 rfl (Nat.le_of_ble_eq_true rfl) ⟨Nat.le_of_ble_eq_true rfl, Nat.le_of_ble_eq_true rfl⟩ d_DR_told_15 ⟨by first | exact Nat.le_of_ble_eq_true rfl | ((try dsimp only); omega), by first | exact Nat.le_of_ble_eq_true rfl | ((try dsimp only); omega)⟩) (fun r_5 h8 H9 locs hp9 hX9 hz9 hI => ?_)
  obtain ⟨rfl, e9⟩ := hp9
  rw [e9] at hI
  clear hX9 e9
  refine f_asi (day_1 (by omega)) ?_
  refine lv_if_ne (tgt := 23) hx hb d_DR_told_18 (by decide) (fun c_6 => ?_) (fun c_6 => absurd c_6 (by decide))
  refine lv_aload_n hx hb d_DR_told_23 rfl (lv_at hl 0 rfl) ?_
  refine f_get (C := "DutyRules") (T := T_DR) (N := 10) hx hb (fun w q => hT w (s_DR w q)) hown hK hI g_X rfl 2 (by decide) (hT _ w_165) (fun _ q => q) rfl d_DR_told_24 ?_
  refine lv_iload_n hx hb d_DR_told_27 rfl (lv_at hl 1 rfl) ?_
  refine lv_iload_n hx hb d_DR_told_28 rfl (lv_at hl 2 rfl) ?_
  refine lv_lload_n hx hb d_DR_told_29 rfl (lv_at hl 3 rfl) ?_
  refine lv_l2i (v := nI on) hx hb d_DR_told_30 (n_l2i _) ?_
  have hzA := hI.2.2.2.1
  refine f_calli hI (f_runV C hI (c_FS_learnNewest_ok l G h _ F A fa gq nf la fl fk fd fw fv hC lot kind blot bkind on bon j eL) gm_FS_learnNewest w_607 w_608 w_606 g_F rfl rfl rfl hl.1 rfl (Nat.le_of_ble_eq_true rfl) ⟨Nat.le_of_ble_eq_true rfl, Nat.le_of_ble_eq_true rfl⟩ d_DR_told_31 ⟨by first | exact Nat.le_of_ble_eq_true rfl | ((try dsimp only); omega), by first | exact Nat.le_of_ble_eq_true rfl | ((try dsimp only); omega)⟩) (fun r_7 h9 H9 locs hp9 hX9 hz9 hI => ?_)
  obtain ⟨rfl, hC9, hF9⟩ := hp9
  have hX := fX.tr (Nat.le_trans (Nat.le_of_eq hsz.symm) hzA) hX hX9
  exact f_zret C hr rfl hI ⟨rfl, hC9, hF9⟩ hX (by (try dsimp only); omega) (by (try dsimp only); omega) d_DR_told_34
