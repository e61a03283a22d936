theorem gm_PR_checkIndex : gM y_PR_checkIndex b_PR_checkIndex 3 (some .int) 3 := ⟨w_299, w_16, ⟨by decide, by decide⟩, by decide +kernel⟩
set_option maxHeartbeats 4000000 in
set_option maxRecDepth 100000 in
/-- PR_checkIndex  -/
theorem c_PR_checkIndex_n (l : Launch) (G : gG) (h : fH) (sz : Nat) (i n : Nat) (hi : i < n) (hn : n < 2 ^ 31) : cM l y_PR_checkIndex b_PR_checkIndex 3 (some .int) { frames := 0, cells := 0, slots := 0, locals := 0 } G [.int (nI i), .int (nI n), .null] h sz (cQi G h sz (fun r h' => r = nI i ∧ h' = h)) := by
  refine f_start (by decide) (Nat.le_of_ble_eq_true rfl) ?_
  intro p e s m below meth c ls C hr hsz hI hl
  obtain ⟨hx, hb, hml, hown, hnm, hlk, hT, hG, hZ⟩ := id C
  have hK := hG.1
  have hX : fX h sz h := fX.rf
  have hl : lv_has ls 3 [(0, .int (nI i)), (1, .int (nI n)), (2, .null)] := hl
  refine lv_iload_n hx hb d_PR_checkIndex_0 rfl (lv_at hl 0 rfl) ?_
  refine lv_if_lt (tgt := 9) hx hb d_PR_checkIndex_1 (by decide) (fun c_1 => absurd c_1 (nI_pos (by omega))) (fun c_1 => ?_)
  refine lv_iload_n hx hb d_PR_checkIndex_4 rfl (lv_at hl 0 rfl) ?_
  refine lv_iload_n hx hb d_PR_checkIndex_5 rfl (lv_at hl 1 rfl) ?_
  refine lv_icmp_lt (tgt := 16) hx hb d_PR_checkIndex_6 (by decide) (fun c_2 => ?_) (fun c_2 => absurd (nI_lt hi hn) c_2)
  refine lv_iload_n hx hb d_PR_checkIndex_16 rfl (lv_at hl 0 rfl) ?_
  exact f_iret C hr hI ⟨rfl, rfl⟩ hX (Nat.le_refl _) (Nat.le_refl _) d_PR_checkIndex_17
set_option maxHeartbeats 4000000 in
set_option maxRecDepth 100000 in
/-- PR_checkIndex  -/
theorem c_PR_checkIndex_r (l : Launch) (G : gG) (h : fH) (sz : Nat) (i n t : Nat) (hi : i < n) (hn : n < 2 ^ 31) : cM l y_PR_checkIndex b_PR_checkIndex 3 (some .int) { frames := 0, cells := 0, slots := 0, locals := 0 } G [.int (nI i), .int (nI n), .ref t] h sz (cQi G h sz (fun r h' => r = nI i ∧ h' = h)) := by
  refine f_start (by decide) (Nat.le_of_ble_eq_true rfl) ?_
  intro p e s m below meth c ls C hr hsz hI hl
  obtain ⟨hx, hb, hml, hown, hnm, hlk, hT, hG, hZ⟩ := id C
  have hK := hG.1
  have hX : fX h sz h := fX.rf
  have hl : lv_has ls 3 [(0, .int (nI i)), (1, .int (nI n)), (2, .ref t)] := hl
  refine lv_iload_n hx hb d_PR_checkIndex_0 rfl (lv_at hl 0 rfl) ?_
  refine lv_if_lt (tgt := 9) hx hb d_PR_checkIndex_1 (by decide) (fun c_1 => absurd c_1 (nI_pos (by omega))) (fun c_1 => ?_)
  refine lv_iload_n hx hb d_PR_checkIndex_4 rfl (lv_at hl 0 rfl) ?_
  refine lv_iload_n hx hb d_PR_checkIndex_5 rfl (lv_at hl 1 rfl) ?_
  refine lv_icmp_lt (tgt := 16) hx hb d_PR_checkIndex_6 (by decide) (fun c_2 => ?_) (fun c_2 => absurd (nI_lt hi hn) c_2)
  refine lv_iload_n hx hb d_PR_checkIndex_16 rfl (lv_at hl 0 rfl) ?_
  exact f_iret C hr hI ⟨rfl, rfl⟩ hX (Nat.le_refl _) (Nat.le_refl _) d_PR_checkIndex_17
theorem gm_ST_checkIndex : gM y_ST_checkIndex b_ST_checkIndex 2 none 2 := ⟨w_296, w_4, ⟨by decide, by decide⟩, by decide +kernel⟩
set_option maxHeartbeats 4000000 in
set_option maxRecDepth 100000 in
/-- ST_checkIndex  -/
theorem c_ST_checkIndex (l : Launch) (G : gG) (h : fH) (sz : Nat) (i n : Nat) (hi : i < n) (hn : n < 2 ^ 31) : cM l y_ST_checkIndex b_ST_checkIndex 2 none { frames := 1, cells := 0, slots := 0, locals := 22 } G [.int (nI i), .int (nI n)] h sz (cQv G h sz (fun h' => h' = h)) := by
  refine f_start (by decide) (Nat.le_of_ble_eq_true rfl) ?_
  intro p e s m below meth c ls C hr hsz hI hl
  obtain ⟨hx, hb, hml, hown, hnm, hlk, hT, hG, hZ⟩ := id C
  have hK := hG.1
  have hX : fX h sz h := fX.rf
  have hl : lv_has ls 2 [(0, .int (nI i)), (1, .int (nI n))] := hl
  have hz3 : va_Z "jdk/internal/util/Preconditions" "SIOOBE_FORMATTER" "Ljava/util/function/BiFunction;" (va_rf (gF G.2.2.2)) (fA h sz) s s.heap := hZ _ (List.mem_of_getElem? (i := 3) rfl)
  rcases hq : gF G.2.2.2 with _ | t
  · rw [hq] at hz3
    refine lv_iload_n hx hb d_ST_checkIndex_0 rfl (lv_at hl 0 rfl) ?_
    refine lv_iload_n hx hb d_ST_checkIndex_1 rfl (lv_at hl 1 rfl) ?_
    refine va_gets (v := .null) hx hb hz3 hI.2.2.2 hown (hT _ w_274) (fun _ q => q) d_ST_checkIndex_2 ?_
    refine f_calli hI (f_runS C hI (c_PR_checkIndex_n l G h _ i n hi hn) gm_PR_checkIndex w_298 w_297 rfl hl.1 rfl (Nat.le_of_ble_eq_true rfl) ⟨Nat.le_of_ble_eq_true rfl, Nat.le_of_ble_eq_true rfl⟩ d_ST_checkIndex_5 ⟨Nat.le_of_ble_eq_true rfl, Nat.le_of_ble_eq_true rfl⟩) (fun r_1 h8 H9 locs hp9 hX9 hz9 hI => ?_)
    obtain ⟨rfl, e9⟩ := hp9
    rw [e9] at hI
    clear hX9 e9
    refine lv_pop hx hb d_ST_checkIndex_8 rfl ?_
    exact f_vret C hr hI rfl hX (Nat.le_refl _) (Nat.le_refl _) d_ST_checkIndex_9
  · rw [hq] at hz3
    refine lv_iload_n hx hb d_ST_checkIndex_0 rfl (lv_at hl 0 rfl) ?_
    refine lv_iload_n hx hb d_ST_checkIndex_1 rfl (lv_at hl 1 rfl) ?_
    refine va_gets (v := .ref t) hx hb hz3 hI.2.2.2 hown (hT _ w_274) (fun _ q => q) d_ST_checkIndex_2 ?_
    refine f_calli hI (f_runS C hI (c_PR_checkIndex_r l G h _ i n t hi hn) gm_PR_checkIndex w_298 w_297 rfl hl.1 rfl (Nat.le_of_ble_eq_true rfl) ⟨Nat.le_of_ble_eq_true rfl, Nat.le_of_ble_eq_true rfl⟩ d_ST_checkIndex_5 ⟨Nat.le_of_ble_eq_true rfl, Nat.le_of_ble_eq_true rfl⟩) (fun r_2 h8 H9 locs hp9 hX9 hz9 hI => ?_)
    obtain ⟨rfl, e9⟩ := hp9
    rw [e9] at hI
    clear hX9 e9
    refine lv_pop hx hb d_ST_checkIndex_8 rfl ?_
    exact f_vret C hr hI rfl hX (Nat.le_refl _) (Nat.le_refl _) d_ST_checkIndex_9
theorem gm_L1_charAt : gM y_L1_charAt b_L1_charAt 2 (some .char) 2 := ⟨w_386, w_15, ⟨by decide, by decide⟩, by decide +kernel⟩
set_option maxHeartbeats 4000000 in
set_option maxRecDepth 100000 in
/-- L1_charAt  -/
theorem c_L1_charAt (l : Launch) (G : gG) (h : fH) (sz : Nat) (b i n ch r2 o2 : Nat) (cA : ClassId) (f : Nat → Int32) (g_b : h b = some (r2, o2, .inl (cA, n, .inl f))) (hcA : gB G cA) (hi : i < n) (hn : n < 2 ^ 31) (hc : ch < 256) (hf : f i = sb_b ch) : cM l y_L1_charAt b_L1_charAt 2 (some .char) { frames := 2, cells := 0, slots := 0, locals := 43 } G [.ref b, .int (nI i)] h sz (cQi G h sz (fun r h' => r = nI ch ∧ h' = h)) := by
  refine f_start (by decide) (Nat.le_of_ble_eq_true rfl) ?_
  intro p e s m below meth c ls C hr hsz hI hl
  obtain ⟨hx, hb, hml, hown, hnm, hlk, hT, hG, hZ⟩ := id C
  have hK := hG.1
  have hX : fX h sz h := fX.rf
  have hl : lv_has ls 2 [(0, .ref b), (1, .int (nI i))] := hl
  refine lv_iload_n hx hb d_L1_charAt_0 rfl (lv_at hl 1 rfl) ?_
  refine lv_aload_n hx hb d_L1_charAt_1 rfl (lv_at hl 0 rfl) ?_
  refine f_alen (v := nI n) hx hb hI g_b (gB.fT hG hcA) rfl d_L1_charAt_2 ?_
  refine f_callv hI (f_runS C hI (c_ST_checkIndex l G h _ i n hi hn) gm_ST_checkIndex w_295 w_387 rfl hl.1 rfl (Nat.le_of_ble_eq_true rfl) ⟨Nat.le_of_ble_eq_true rfl, Nat.le_of_ble_eq_true rfl⟩ d_L1_charAt_3 ⟨Nat.le_of_ble_eq_true rfl, Nat.le_of_ble_eq_true rfl⟩) (fun h9 H9 locs hp9 hX9 hz9 hI => ?_)
  subst hp9
  clear hX9
  refine lv_aload_n hx hb d_L1_charAt_6 rfl (lv_at hl 0 rfl) ?_
  refine lv_iload_n hx hb d_L1_charAt_7 rfl (lv_at hl 1 rfl) ?_
  refine f_baldn (k := i) (v := (sb_b ch)) hx hb hI g_b (gB.fT hG hcA) (by omega) (by omega) hf d_L1_charAt_8 ?_
  refine lv_sipush (v := 255) hx hb d_L1_charAt_9 (by decide) ?_
  refine lv_iand hx hb d_L1_charAt_12 ?_
  refine lv_i2c hx hb d_L1_charAt_13 rfl ?_
  refine f_asi (ch_b hc) ?_
  exact f_zret C hr (pk_charN (q := ch) (by omega)).1 hI ⟨rfl, rfl⟩ hX (Nat.le_refl _) (Nat.le_refl _) d_L1_charAt_14
theorem gm_ST_isLatin1 : gM y_ST_isLatin1 b_ST_isLatin1 1 (some .boolean) 0 := ⟨w_383, w_4, ⟨by decide, by decide⟩, by decide +kernel⟩
set_option maxHeartbeats 4000000 in
set_option maxRecDepth 100000 in
/-- ST_isLatin1  -/
theorem c_ST_isLatin1 (l : Launch) (G : gG) (h : fH) (sz : Nat) (a b r o : Nat) (fs : List Value) (g_a : h a = some (r, o, .inr (10, .ref b :: .int 0 :: fs))) : cM l y_ST_isLatin1 b_ST_isLatin1 1 (some .boolean) { frames := 0, cells := 0, slots := 0, locals := 0 } G [.ref a] h sz (cQi G h sz (fun x h' => x = 1 ∧ h' = h)) := by
  refine f_start (by decide) (Nat.le_of_ble_eq_true rfl) ?_
  intro p e s m below meth c ls C hr hsz hI hl
  obtain ⟨hx, hb, hml, hown, hnm, hlk, hT, hG, hZ⟩ := id C
  have hK := hG.1
  have hX : fX h sz h := fX.rf
  have hl : lv_has ls 1 [(0, .ref a)] := hl
  have hz0 : va_Z "java/lang/String" "COMPACT_STRINGS" "Z" (.int 1) (fA h sz) s s.heap := hZ _ (List.mem_of_getElem? (i := 0) rfl)
  refine va_gets (v := .int 1) hx hb hz0 hI.2.2.2 hown (hT _ w_335) (fun _ q => q) d_ST_isLatin1_0 ?_
  refine lv_if_eq (tgt := 17) hx hb d_ST_isLatin1_3 (by decide) (fun c_1 => absurd c_1 (by decide)) (fun c_1 => ?_)
  refine lv_aload_n hx hb d_ST_isLatin1_6 rfl (lv_at hl 0 rfl) ?_
  refine f_get (C := "java/lang/String") (T := T_ST) (N := 4) hx hb (fun w q => hT w (s_ST w q)) hown hK hI g_a rfl 1 (by decide) (hT _ w_350) (fun _ q => q) rfl d_ST_isLatin1_7 ?_
  refine lv_if_ne (tgt := 17) hx hb d_ST_isLatin1_10 (by decide) (fun c_2 => absurd (by decide) c_2) (fun c_2 => ?_)
  refine lv_iconst (v := 1) hx hb d_ST_isLatin1_13 (by decide) ?_
  refine lv_goto (tgt := 18) hx hb d_ST_isLatin1_14 (by decide) ?_
  exact f_zret C hr rfl hI ⟨rfl, rfl⟩ hX (Nat.le_refl _) (Nat.le_refl _) d_ST_isLatin1_18
theorem gm_ST_coder : gM y_ST_coder b_ST_coder 1 (some .byte) 0 := ⟨w_375, w_4, ⟨by decide, by decide⟩, by decide +kernel⟩
set_option maxHeartbeats 4000000 in
set_option maxRecDepth 100000 in
/-- ST_coder  -/
theorem c_ST_coder (l : Launch) (G : gG) (h : fH) (sz : Nat) (a b r o : Nat) (fs : List Value) (g_a : h a = some (r, o, .inr (10, .ref b :: .int 0 :: fs))) : cM l y_ST_coder b_ST_coder 1 (some .byte) { frames := 0, cells := 0, slots := 0, locals := 0 } G [.ref a] h sz (cQi G h sz (fun x h' => x = 0 ∧ h' = h)) := by
  refine f_start (by decide) (Nat.le_of_ble_eq_true rfl) ?_
  intro p e s m below meth c ls C hr hsz hI hl
  obtain ⟨hx, hb, hml, hown, hnm, hlk, hT, hG, hZ⟩ := id C
  have hK := hG.1
  have hX : fX h sz h := fX.rf
  have hl : lv_has ls 1 [(0, .ref a)] := hl
  have hz0 : va_Z "java/lang/String" "COMPACT_STRINGS" "Z" (.int 1) (fA h sz) s s.heap := hZ _ (List.mem_of_getElem? (i := 0) rfl)
  refine va_gets (v := .int 1) hx hb hz0 hI.2.2.2 hown (hT _ w_335) (fun _ q => q) d_ST_coder_0 ?_
  refine lv_if_eq (tgt := 13) hx hb d_ST_coder_3 (by decide) (fun c_1 => absurd c_1 (by decide)) (fun c_1 => ?_)
  refine lv_aload_n hx hb d_ST_coder_6 rfl (lv_at hl 0 rfl) ?_
  refine f_get (C := "java/lang/String") (T := T_ST) (N := 4) hx hb (fun w q => hT w (s_ST w q)) hown hK hI g_a rfl 1 (by decide) (hT _ w_350) (fun _ q => q) rfl d_ST_coder_7 ?_
  refine lv_goto (tgt := 14) hx hb d_ST_coder_10 (by decide) ?_
  exact f_zret C hr rfl hI ⟨rfl, rfl⟩ hX (Nat.le_refl _) (Nat.le_refl _) d_ST_coder_14
theorem gm_ST_charAt : gM y_ST_charAt b_ST_charAt 2 (some .char) 1 := ⟨w_379, w_4, ⟨by decide, by decide⟩, by decide +kernel⟩
set_option maxHeartbeats 4000000 in
set_option maxRecDepth 100000 in
/-- ST_charAt  -/
theorem c_ST_charAt (l : Launch) (G : gG) (h : fH) (sz : Nat) (a b i n ch r o r2 o2 : Nat) (cA : ClassId) (f : Nat → Int32) (fs : List Value) (g_a : h a = some (r, o, .inr (10, .ref b :: .int 0 :: fs))) (g_b : h b = some (r2, o2, .inl (cA, n, .inl f))) (hcA : gB G cA) (hi : i < n) (hn : n < 2 ^ 31) (hc : ch < 256) (hf : f i = sb_b ch) : cM l y_ST_charAt b_ST_charAt 2 (some .char) { frames := 3, cells := 0, slots := 0, locals := 64 } G [.ref a, .int (nI i)] h sz (cQi G h sz (fun x h' => x = nI ch ∧ h' = h)) := by
  refine f_start (by decide) (Nat.le_of_ble_eq_true rfl) ?_
  intro p e s m below meth c ls C hr hsz hI hl
  obtain ⟨hx, hb, hml, hown, hnm, hlk, hT, hG, hZ⟩ := id C
  have hK := hG.1
  have hX : fX h sz h := fX.rf
  have hl : lv_has ls 2 [(0, .ref a), (1, .int (nI i))] := hl
  refine lv_aload_n hx hb d_ST_charAt_0 rfl (lv_at hl 0 rfl) ?_
  refine f_calli hI (f_runV C hI (c_ST_isLatin1 l G h _ a b r o fs g_a) gm_ST_isLatin1 w_381 w_382 w_380 g_a rfl rfl rfl hl.1 rfl (Nat.le_of_ble_eq_true rfl) ⟨Nat.le_of_ble_eq_true rfl, Nat.le_of_ble_eq_true rfl⟩ d_ST_charAt_1 ⟨Nat.le_of_ble_eq_true rfl, Nat.le_of_ble_eq_true rfl⟩) (fun r_1 h8 H9 locs hp9 hX9 hz9 hI => ?_)
  obtain ⟨rfl, e9⟩ := hp9
  rw [e9] at hI
  clear hX9 e9
  refine lv_if_eq (tgt := 16) hx hb d_ST_charAt_4 (by decide) (fun c_2 => absurd c_2 (by decide)) (fun c_2 => ?_)
  refine lv_aload_n hx hb d_ST_charAt_7 rfl (lv_at hl 0 rfl) ?_
  refine f_get (C := "java/lang/String") (T := T_ST) (N := 4) hx hb (fun w q => hT w (s_ST w q)) hown hK hI g_a rfl 0 (by decide) (hT _ w_349) (fun _ q => q) rfl d_ST_charAt_8 ?_
  refine lv_iload_n hx hb d_ST_charAt_11 rfl (lv_at hl 1 rfl) ?_
  refine f_calli hI (f_runS C hI (c_L1_charAt l G h _ b i n ch r2 o2 cA f g_b hcA hi hn hc hf) gm_L1_charAt w_385 w_384 rfl hl.1 rfl (Nat.le_of_ble_eq_true rfl) ⟨Nat.le_of_ble_eq_true rfl, Nat.le_of_ble_eq_true rfl⟩ d_ST_charAt_12 ⟨Nat.le_of_ble_eq_true rfl, Nat.le_of_ble_eq_true rfl⟩) (fun r_3 h8 H9 locs hp9 hX9 hz9 hI => ?_)
  obtain ⟨rfl, e9⟩ := hp9
  rw [e9] at hI
  clear hX9 e9
  exact f_zret C hr (pk_charN (q := ch) (by omega)).1 hI ⟨rfl, rfl⟩ hX (Nat.le_refl _) (Nat.le_refl _) d_ST_charAt_15
theorem gm_ST_length : gM y_ST_length b_ST_length 1 (some .int) 0 := ⟨w_371, w_4, ⟨by decide, by decide⟩, by decide +kernel⟩
set_option maxHeartbeats 4000000 in
set_option maxRecDepth 100000 in
/-- ST_length  -/
theorem c_ST_length (l : Launch) (G : gG) (h : fH) (sz : Nat) (a b n r o r2 o2 : Nat) (cA : ClassId) (f : Nat → Int32) (fs : List Value) (g_a : h a = some (r, o, .inr (10, .ref b :: .int 0 :: fs))) (g_b : h b = some (r2, o2, .inl (cA, n, .inl f))) (hcA : gB G cA) : cM l y_ST_length b_ST_length 1 (some .int) { frames := 1, cells := 0, slots := 0, locals := 20 } G [.ref a] h sz (cQi G h sz (fun x h' => x = nI n ∧ h' = h)) := by
  refine f_start (by decide) (Nat.le_of_ble_eq_true rfl) ?_
  intro p e s m below meth c ls C hr hsz hI hl
  obtain ⟨hx, hb, hml, hown, hnm, hlk, hT, hG, hZ⟩ := id C
  have hK := hG.1
  have hX : fX h sz h := fX.rf
  have hl : lv_has ls 1 [(0, .ref a)] := hl
  refine lv_aload_n hx hb d_ST_length_0 rfl (lv_at hl 0 rfl) ?_
  refine f_get (C := "java/lang/String") (T := T_ST) (N := 4) hx hb (fun w q => hT w (s_ST w q)) hown hK hI g_a rfl 0 (by decide) (hT _ w_349) (fun _ q => q) rfl d_ST_length_1 ?_
  refine f_alen (v := nI n) hx hb hI g_b (gB.fT hG hcA) rfl d_ST_length_4 ?_
  refine lv_aload_n hx hb d_ST_length_5 rfl (lv_at hl 0 rfl) ?_
  refine f_calli hI (f_runV C hI (c_ST_coder l G h _ a b r o fs g_a) gm_ST_coder w_373 w_374 w_372 g_a rfl rfl rfl hl.1 rfl (Nat.le_of_ble_eq_true rfl) ⟨Nat.le_of_ble_eq_true rfl, Nat.le_of_ble_eq_true rfl⟩ d_ST_length_6 ⟨Nat.le_of_ble_eq_true rfl, Nat.le_of_ble_eq_true rfl⟩) (fun r_1 h8 H9 locs hp9 hX9 hz9 hI => ?_)
  obtain ⟨rfl, e9⟩ := hp9
  rw [e9] at hI
  clear hX9 e9
  refine lv_ishr hx hb d_ST_length_9 ?_
  exact f_iret C hr hI ⟨sb_shr0 _, rfl⟩ hX (Nat.le_refl _) (Nat.le_refl _) d_ST_length_10
theorem c_ST_at (l : Launch) (G : gG) (h : fH) (sz r r2 o a i n : Nat) (tx : Nat → Nat) (H : sT G h r r2 o a tx n) (hi : i < n) : cM l y_ST_charAt b_ST_charAt 2 (some .char) { frames := 3, cells := 0, slots := 0, locals := 64 } G [.ref a, .int (nI i)] h sz (cQi G h sz (fun x h' => x = nI (tx i) ∧ h' = h)) := by
  obtain ⟨b, cA, f, fs, g1, g2, g3, g4, g5⟩ := H
  exact c_ST_charAt l G h sz a b i n (tx i) r o r2 o cA f fs g1 g2 g3 hi (by omega) (g5 i hi).1 (g5 i hi).2
theorem c_ST_len (l : Launch) (G : gG) (h : fH) (sz r r2 o a n : Nat) (tx : Nat → Nat) (H : sT G h r r2 o a tx n) : cM l y_ST_length b_ST_length 1 (some .int) { frames := 1, cells := 0, slots := 0, locals := 20 } G [.ref a] h sz (cQi G h sz (fun x h' => x = nI n ∧ h' = h)) := by
  obtain ⟨b, cA, f, fs, g1, g2, g3, g4, g5⟩ := H
  exact c_ST_length l G h sz a b n r o r2 o cA f fs g1 g2 g3
