theorem gm_L1_canEncode : gM y_L1_canEncode b_L1_canEncode 1 (some .boolean) 1 := ⟨w_254, w_15, ⟨by decide, by decide⟩, by decide +kernel⟩
set_option maxHeartbeats 4000000 in
set_option maxRecDepth 100000 in
/-- L1_canEncode  -/
theorem c_L1_canEncode (l : Launch) (G : gG) (h : fH) (sz : Nat) (a : Int32) : cM l y_L1_canEncode b_L1_canEncode 1 (some .boolean) { frames := 0, cells := 0, slots := 0, locals := 0 } G [.int a] h sz (cQi G h sz (fun (r : Int32) h' => r = (if 255 < a then 0 else 1) ∧ h' = h)) := by
  refine f_start (by decide) (Nat.le_of_ble_eq_true rfl) ?_
  intro p e s m below meth c ls C hr hsz hI hl
  obtain ⟨hx, hb, hml, hown, hnm, hlk, hT, hG, hZ⟩ := id C
  have hK := hG.1
  have hX : fX h sz h := fX.rf
  have hl : lv_has ls 1 [(0, .int a)] := hl
  refine lv_iload_n hx hb d_L1_canEncode_0 rfl (lv_at hl 0 rfl) ?_
  refine lv_sipush (v := 255) hx hb d_L1_canEncode_1 (by decide) ?_
  refine lv_icmp_gt (tgt := 11) hx hb d_L1_canEncode_4 (by decide) (fun c_1 => ?_) (fun c_1 => ?_)
  · skip
    refine lv_iconst (v := 0) hx hb d_L1_canEncode_11 (by decide) ?_
    exact f_zret C hr rfl hI ⟨by rw [if_pos c_1], rfl⟩ hX (Nat.le_refl _) (Nat.le_refl _) d_L1_canEncode_12
  · skip
    refine lv_iconst (v := 1) hx hb d_L1_canEncode_7 (by decide) ?_
    refine lv_goto (tgt := 12) hx hb d_L1_canEncode_8 (by decide) ?_
    exact f_zret C hr rfl hI ⟨by rw [if_neg c_1], rfl⟩ hX (Nat.le_refl _) (Nat.le_refl _) d_L1_canEncode_12
theorem gm_AB_isLatin1 : gM y_AB_isLatin1 b_AB_isLatin1 1 (some .boolean) 0 := ⟨w_251, w_2, ⟨by decide, by decide⟩, by decide +kernel⟩
set_option maxHeartbeats 4000000 in
set_option maxRecDepth 100000 in
/-- AB_isLatin1  -/
theorem c_AB_isLatin1 (l : Launch) (G : gG) (h : fH) (sz : Nat) (a b r o : Nat) (ml cn : Int32) (g_a : h a = some (r, o, .inr (9, [.ref b, .int 0, .int ml, .int cn]))) : cM l y_AB_isLatin1 b_AB_isLatin1 1 (some .boolean) { frames := 0, cells := 0, slots := 0, locals := 0 } G [.ref a] h sz (cQi G h sz (fun x h' => x = 1 ∧ h' = h)) := by
  refine f_start (by decide) (Nat.le_of_ble_eq_true rfl) ?_
  intro p e s m below meth c ls C hr hsz hI hl
  obtain ⟨hx, hb, hml, hown, hnm, hlk, hT, hG, hZ⟩ := id C
  have hK := hG.1
  have hX : fX h sz h := fX.rf
  have hl : lv_has ls 1 [(0, .ref a)] := hl
  have hz0 : va_Z "java/lang/String" "COMPACT_STRINGS" "Z" (.int 1) (fA h sz) s s.heap := hZ _ (List.mem_of_getElem? (i := 0) rfl)
  refine va_gets (v := .int 1) hx hb hz0 hI.2.2.2 hown (hT _ w_39) (fun _ q => q) d_AB_isLatin1_0 ?_
  refine lv_if_eq (tgt := 17) hx hb d_AB_isLatin1_3 (by decide) (fun c_1 => absurd c_1 (by decide)) (fun c_1 => ?_)
  refine lv_aload_n hx hb d_AB_isLatin1_6 rfl (lv_at hl 0 rfl) ?_
  refine f_get (C := "java/lang/StringBuilder") (T := T_SB) (N := 4) hx hb (fun w q => hT w (s_SB w q)) hown hK hI g_a rfl 1 (by decide) (hT _ w_49) (fun _ q => q) rfl d_AB_isLatin1_7 ?_
  refine lv_if_ne (tgt := 17) hx hb d_AB_isLatin1_10 (by decide) (fun c_2 => absurd (by decide) c_2) (fun c_2 => ?_)
  refine lv_iconst (v := 1) hx hb d_AB_isLatin1_13 (by decide) ?_
  refine lv_goto (tgt := 18) hx hb d_AB_isLatin1_14 (by decide) ?_
  exact f_zret C hr rfl hI ⟨rfl, rfl⟩ hX (Nat.le_refl _) (Nat.le_refl _) d_AB_isLatin1_18
theorem gm_AB_length : gM y_AB_length b_AB_length 1 (some .int) 0 := ⟨w_204, w_2, ⟨by decide, by decide⟩, by decide +kernel⟩
set_option maxHeartbeats 4000000 in
set_option maxRecDepth 100000 in
/-- AB_length  -/
theorem c_AB_length (l : Launch) (G : gG) (h : fH) (sz : Nat) (a b r o : Nat) (ml cn : Int32) (g_a : h a = some (r, o, .inr (9, [.ref b, .int 0, .int ml, .int cn]))) : cM l y_AB_length b_AB_length 1 (some .int) { frames := 0, cells := 0, slots := 0, locals := 0 } G [.ref a] h sz (cQi G h sz (fun x h' => x = cn ∧ h' = h)) := by
  refine f_start (by decide) (Nat.le_of_ble_eq_true rfl) ?_
  intro p e s m below meth c ls C hr hsz hI hl
  obtain ⟨hx, hb, hml, hown, hnm, hlk, hT, hG, hZ⟩ := id C
  have hK := hG.1
  have hX : fX h sz h := fX.rf
  have hl : lv_has ls 1 [(0, .ref a)] := hl
  refine lv_aload_n hx hb d_AB_length_0 rfl (lv_at hl 0 rfl) ?_
  refine f_get (C := "java/lang/StringBuilder") (T := T_SB) (N := 4) hx hb (fun w q => hT w (s_SB w q)) hown hK hI g_a rfl 3 (by decide) (hT _ w_52) (fun _ q => q) rfl d_AB_length_1 ?_
  exact f_iret C hr hI ⟨rfl, rfl⟩ hX (Nat.le_refl _) (Nat.le_refl _) d_AB_length_4
theorem gm_SB_length : gM y_SB_length b_SB_length 1 (some .int) 0 := ⟨w_201, w_3, ⟨by decide, by decide⟩, by decide +kernel⟩
set_option maxHeartbeats 4000000 in
set_option maxRecDepth 100000 in
/-- SB_length  -/
theorem c_SB_length (l : Launch) (G : gG) (h : fH) (sz : Nat) (a b r o : Nat) (ml cn : Int32) (g_a : h a = some (r, o, .inr (9, [.ref b, .int 0, .int ml, .int cn]))) : cM l y_SB_length b_SB_length 1 (some .int) { frames := 1, cells := 0, slots := 0, locals := 20 } G [.ref a] h sz (cQi G h sz (fun x h' => x = cn ∧ h' = h)) := by
  refine f_start (by decide) (Nat.le_of_ble_eq_true rfl) ?_
  intro p e s m below meth c ls C hr hsz hI hl
  obtain ⟨hx, hb, hml, hown, hnm, hlk, hT, hG, hZ⟩ := id C
  have hK := hG.1
  have hX : fX h sz h := fX.rf
  have hl : lv_has ls 1 [(0, .ref a)] := hl
  refine lv_aload_n hx hb d_SB_length_0 rfl (lv_at hl 0 rfl) ?_
  have hzA := hI.2.2.2.1
  refine f_calli hI (f_runSU C hI (c_AB_length l G h _ a b r o ml cn g_a) gm_AB_length w_203 w_1096 w_61 (by decide) w_202 g_a rfl rfl hl.1 rfl (Nat.le_of_ble_eq_true rfl) ⟨Nat.le_of_ble_eq_true rfl, Nat.le_of_ble_eq_true rfl⟩ d_SB_length_1 ⟨by (try dsimp only); omega, by (try dsimp only); omega⟩) (fun r_1 h8 H9 locs hp9 hX9 hz9 hI => ?_)
  obtain ⟨rfl, e9⟩ := hp9
  rw [e9] at hI
  clear hX9 e9
  exact f_iret C hr hI ⟨rfl, rfl⟩ hX (Nat.le_refl _) (Nat.le_refl _) d_SB_length_4
theorem gm_AB_getValue : gM y_AB_getValue b_AB_getValue 1 (some (.array .byte)) 0 := ⟨w_323, w_2, ⟨by decide, by decide⟩, by decide +kernel⟩
set_option maxHeartbeats 4000000 in
set_option maxRecDepth 100000 in
/-- AB_getValue  -/
theorem c_AB_getValue (l : Launch) (G : gG) (h : fH) (sz : Nat) (a b r o : Nat) (ml cn : Int32) (g_a : h a = some (r, o, .inr (9, [.ref b, .int 0, .int ml, .int cn]))) : cM l y_AB_getValue b_AB_getValue 1 (some (.array .byte)) { frames := 0, cells := 0, slots := 0, locals := 0 } G [.ref a] h sz (cQq G h sz (fun x h' => x = some b ∧ h' = h)) := by
  refine f_start (by decide) (Nat.le_of_ble_eq_true rfl) ?_
  intro p e s m below meth c ls C hr hsz hI hl
  obtain ⟨hx, hb, hml, hown, hnm, hlk, hT, hG, hZ⟩ := id C
  have hK := hG.1
  have hX : fX h sz h := fX.rf
  have hl : lv_has ls 1 [(0, .ref a)] := hl
  refine lv_aload_n hx hb d_AB_getValue_0 rfl (lv_at hl 0 rfl) ?_
  refine f_get (C := "java/lang/StringBuilder") (T := T_SB) (N := 4) hx hb (fun w q => hT w (s_SB w q)) hown hK hI g_a rfl 0 (by decide) (hT _ w_48) (fun _ q => q) rfl d_AB_getValue_1 ?_
  exact f_aret (v := some b) C hr (Or.inr ⟨_, rfl⟩) hI ⟨rfl, rfl⟩ hX (by (try dsimp only); omega) (by (try dsimp only); omega) d_AB_getValue_4
theorem gm_AS_newLength : gM y_AS_newLength b_AS_newLength 4 (some .int) 3 := ⟨w_222, w_11, ⟨by decide, by decide⟩, by decide +kernel⟩
set_option maxHeartbeats 4000000 in
set_option maxRecDepth 100000 in
/-- AS_newLength  -/
theorem c_AS_newLength (l : Launch) (G : gG) (h : fH) (sz : Nat) (o1 g1 g2 : Nat) (hg : g1 ≤ g2) (h0 : 0 < o1 + g2) (hb2 : o1 + g2 < 1000000) : cM l y_AS_newLength b_AS_newLength 4 (some .int) { frames := 1, cells := 0, slots := 0, locals := 21 } G [.int (nI o1), .int (nI g1), .int (nI g2)] h sz (cQi G h sz (fun x h' => x = nI (o1 + g2) ∧ h' = h)) := by
  refine f_start (by decide) (Nat.le_of_ble_eq_true rfl) ?_
  intro p e s m below meth c ls C hr hsz hI hl
  obtain ⟨hx, hb, hml, hown, hnm, hlk, hT, hG, hZ⟩ := id C
  have hK := hG.1
  have hX : fX h sz h := fX.rf
  have hl : lv_has ls 4 [(0, .int (nI o1)), (1, .int (nI g1)), (2, .int (nI g2))] := hl
  refine lv_iload_n hx hb d_AS_newLength_0 rfl (lv_at hl 0 rfl) ?_
  refine lv_iload_n hx hb d_AS_newLength_1 rfl (lv_at hl 1 rfl) ?_
  refine lv_iload_n hx hb d_AS_newLength_2 rfl (lv_at hl 2 rfl) ?_
  refine va_mmax hx hb (hml.trans hl.1.symm) hown (hT _ w_223) (hT _ w_224) (hT _ w_12) (hT _ w_225) (Nat.le_of_ble_eq_true rfl) (Nat.le_of_ble_eq_true rfl) (by first | exact Nat.le_of_ble_eq_true rfl | ((try dsimp only); omega)) (by first | exact Nat.le_of_ble_eq_true rfl | ((try dsimp only); omega)) d_AS_newLength_3 ?_
  refine f_asi (mx_n hg (by omega)) ?_
  refine lv_iadd hx hb d_AS_newLength_6 ?_
  refine f_asi (nI_add o1 g2) ?_
  refine lv_istore_n (lv' := [(3, .int (nI (o1 + g2))), (0, .int (nI o1)), (1, .int (nI g1)), (2, .int (nI g2))]) hx hb d_AS_newLength_7 rfl hl (by decide) rfl (fun ls hl => ?_)
  refine lv_iconst (v := 0) hx hb d_AS_newLength_8 (by decide) ?_
  refine lv_iload_n hx hb d_AS_newLength_9 rfl (lv_at hl 0 rfl) ?_
  refine lv_icmp_ge (tgt := 21) hx hb d_AS_newLength_10 (by decide) (fun c_1 => absurd c_1 (fun q => absurd ((n_le (a := o1 + g2) (b := 0) (by omega) (by omega)).mp q) (by omega))) (fun c_1 => ?_)
  refine lv_iload_n hx hb d_AS_newLength_13 rfl (lv_at hl 0 rfl) ?_
  refine lv_ldc (v := 2147483639) hx hb hown (hT _ w_226) d_AS_newLength_14 ?_
  refine lv_icmp_gt (tgt := 21) hx hb d_AS_newLength_16 (by decide) (fun c_2 => absurd c_2 (fun q => absurd ((n_lt (a := 2147483639) (b := o1 + g2) (by omega) (by omega)).mp q) (by omega))) (fun c_2 => ?_)
  refine lv_iload_n hx hb d_AS_newLength_19 rfl (lv_at hl 0 rfl) ?_
  exact f_iret C hr hI ⟨rfl, rfl⟩ hX (Nat.le_refl _) (Nat.le_refl _) d_AS_newLength_20
theorem gm_AB_newCapacity : gM y_AB_newCapacity b_AB_newCapacity 6 (some .int) 1 := ⟨w_219, w_2, ⟨by decide, by decide⟩, by decide +kernel⟩
set_option maxHeartbeats 4000000 in
set_option maxRecDepth 100000 in
/-- AB_newCapacity  -/
theorem c_AB_newCapacity (l : Launch) (G : gG) (h : fH) (sz : Nat) (a b r r2 o mm q : Nat) (ml cn : Int32) (f : Nat → Int32) (g_a : h a = some (r, o, .inr (9, [.ref b, .int 0, .int ml, .int cn]))) (g_b : h b = some (r2, o, .inl (G.2.1 3, mm, .inl f))) (h1 : mm < q) (h2 : q ≤ 2 * mm + 2) (h3 : mm ≤ 60000) : cM l y_AB_newCapacity b_AB_newCapacity 6 (some .int) { frames := 2, cells := 0, slots := 0, locals := 44 } G [.ref a, .int (nI q)] h sz (cQi G h sz (fun x h' => x = nI (2 * mm + 2) ∧ h' = h)) := by
  refine f_start (by decide) (Nat.le_of_ble_eq_true rfl) ?_
  intro p e s m below meth c ls C hr hsz hI hl
  obtain ⟨hx, hb, hml, hown, hnm, hlk, hT, hG, hZ⟩ := id C
  have hK := hG.1
  have hX : fX h sz h := fX.rf
  have hl : lv_has ls 6 [(0, .ref a), (1, .int (nI q))] := hl
  refine lv_aload_n hx hb d_AB_newCapacity_0 rfl (lv_at hl 0 rfl) ?_
  refine f_get (C := "java/lang/StringBuilder") (T := T_SB) (N := 4) hx hb (fun w q => hT w (s_SB w q)) hown hK hI g_a rfl 0 (by decide) (hT _ w_48) (fun _ q => q) rfl d_AB_newCapacity_1 ?_
  refine f_alen (v := nI mm) hx hb hI g_b (fT.ofK hK (t0 := 3) rfl) rfl d_AB_newCapacity_4 ?_
  refine lv_istore_n (lv' := [(2, .int (nI mm)), (0, .ref a), (1, .int (nI q))]) hx hb d_AB_newCapacity_5 rfl hl (by decide) rfl (fun ls hl => ?_)
  refine lv_iload_n hx hb d_AB_newCapacity_6 rfl (lv_at hl 2 rfl) ?_
  refine lv_aload_n hx hb d_AB_newCapacity_7 rfl (lv_at hl 1 rfl) ?_
  refine f_get (C := "java/lang/StringBuilder") (T := T_SB) (N := 4) hx hb (fun w q => hT w (s_SB w q)) hown hK hI g_a rfl 1 (by decide) (hT _ w_49) (fun _ q => q) rfl d_AB_newCapacity_8 ?_
  refine lv_ishl hx hb d_AB_newCapacity_11 ?_
  refine f_asi (sb_shl0 _) ?_
  refine lv_istore_n (lv' := [(3, .int (nI q)), (2, .int (nI mm)), (0, .ref a), (1, .int (nI q))]) hx hb d_AB_newCapacity_12 rfl hl (by decide) rfl (fun ls hl => ?_)
  refine lv_iload_n hx hb d_AB_newCapacity_13 rfl (lv_at hl 0 rfl) ?_
  refine lv_iload_n hx hb d_AB_newCapacity_14 rfl (lv_at hl 1 rfl) ?_
  refine lv_isub hx hb d_AB_newCapacity_15 ?_
  refine f_asi (pk_sub (a := q) (b := mm) (by omega)) ?_
  refine lv_istore (lv' := [(4, .int (nI (q - mm))), (3, .int (nI q)), (2, .int (nI mm)), (0, .ref a), (1, .int (nI q))]) hx hb d_AB_newCapacity_16 hl (by decide) rfl (fun ls hl => ?_)
  refine lv_iload_n hx hb d_AB_newCapacity_18 rfl (lv_at hl 2 rfl) ?_
  refine lv_iload hx hb d_AB_newCapacity_19 (lv_at hl 0 rfl) ?_
  refine lv_iload_n hx hb d_AB_newCapacity_21 rfl (lv_at hl 2 rfl) ?_
  refine lv_iconst (v := 2) hx hb d_AB_newCapacity_22 (by decide) ?_
  refine lv_aload_n hx hb d_AB_newCapacity_23 rfl (lv_at hl 3 rfl) ?_
  refine f_get (C := "java/lang/StringBuilder") (T := T_SB) (N := 4) hx hb (fun w q => hT w (s_SB w q)) hown hK hI g_a rfl 1 (by decide) (hT _ w_49) (fun _ q => q) rfl d_AB_newCapacity_24 ?_
  refine lv_ishl hx hb d_AB_newCapacity_27 ?_
  refine f_asi (sb_shl0 _) ?_
  refine lv_iadd hx hb d_AB_newCapacity_28 ?_
  refine f_asi (nI_add mm 2) ?_
  refine f_calli hI (f_runS C hI (c_AS_newLength l G h _ mm (q - mm) (mm + 2) (by omega) (by omega) (by omega)) gm_AS_newLength w_221 w_220 rfl hl.1 rfl (Nat.le_of_ble_eq_true rfl) ⟨Nat.le_of_ble_eq_true rfl, Nat.le_of_ble_eq_true rfl⟩ d_AB_newCapacity_29 ⟨Nat.le_of_ble_eq_true rfl, Nat.le_of_ble_eq_true rfl⟩) (fun r_1 h8 H9 locs hp9 hX9 hz9 hI => ?_)
  obtain ⟨rfl, e9⟩ := hp9
  rw [e9] at hI
  clear hX9 e9
  refine f_asi (congrArg nI (show mm + (mm + 2) = 2 * mm + 2 by omega)) ?_
  refine lv_istore (lv' := [(5, .int (nI (2 * mm + 2))), (4, .int (nI (q - mm))), (3, .int (nI q)), (2, .int (nI mm)), (0, .ref a), (1, .int (nI q))]) hx hb d_AB_newCapacity_32 hl (by decide) rfl (fun ls hl => ?_)
  refine lv_iload hx hb d_AB_newCapacity_34 (lv_at hl 0 rfl) ?_
  refine lv_ldc (v := 2147483647) hx hb hown (hT _ w_230) d_AB_newCapacity_36 ?_
  refine lv_icmp_ne (tgt := 51) hx hb d_AB_newCapacity_38 (by decide) (fun c_2 => ?_) (fun c_2 => absurd c_2 (fun z => absurd ((n_eq (a := 2 * mm + 2) (b := 2147483647) (by omega) (by omega)).mp z) (by omega)))
  refine lv_iload hx hb d_AB_newCapacity_51 (lv_at hl 0 rfl) ?_
  refine lv_aload_n hx hb d_AB_newCapacity_53 rfl (lv_at hl 4 rfl) ?_
  refine f_get (C := "java/lang/StringBuilder") (T := T_SB) (N := 4) hx hb (fun w q => hT w (s_SB w q)) hown hK hI g_a rfl 1 (by decide) (hT _ w_49) (fun _ q => q) rfl d_AB_newCapacity_54 ?_
  refine lv_ishr hx hb d_AB_newCapacity_57 ?_
  refine f_asi (sb_shr0 _) ?_
  exact f_iret C hr hI ⟨rfl, rfl⟩ hX (Nat.le_refl _) (Nat.le_refl _) d_AB_newCapacity_58
theorem gm_AR_copyOf : gM y_AR_copyOf b_AR_copyOf 3 (some (.array .byte)) 2 := ⟨w_233, w_13, ⟨by decide, by decide⟩, by decide +kernel⟩
set_option maxHeartbeats 4000000 in
set_option maxRecDepth 100000 in
/-- AR_copyOf  -/
theorem c_AR_copyOf (l : Launch) (G : gG) (h : fH) (sz : Nat) (b r2 o mm q r4 o4 : Nat) (f : Nat → Int32) (hr2 : r2 ≠ 0) (hr4 : r4 ≠ 0) (g_b : h b = some (r2, o, .inl (G.2.1 3, mm, .inl f))) (hf : sb_Fit f) (hq : mm < q) (bq : q ≤ 200000) : cM l y_AR_copyOf b_AR_copyOf 3 (some (.array .byte)) { frames := 1, cells := 1, slots := q, locals := 40 } G [.ref b, .int (nI q)] h sz (cQq G h sz (fun x h' => ∃ c1, x = some c1 ∧ h' c1 = some (r4, o4, .inl (G.2.1 3, q, .inl (va_cpy f (fun _ => 0) 0 0 mm))) ∧ h c1 = none ∧ fF (inR []) h h')) := by
  refine f_start (by decide) (Nat.le_of_ble_eq_true rfl) ?_
  intro p e s m below meth c ls C hr hsz hI hl
  obtain ⟨hx, hb, hml, hown, hnm, hlk, hT, hG, hZ⟩ := id C
  have hK := hG.1
  have hX : fX h sz h := fX.rf
  have hl : lv_has ls 3 [(0, .ref b), (1, .int (nI q))] := hl
  have hF : fF (inR []) h h := fF.rf
  have g_b0 := g_b
  refine lv_iload_n hx hb d_AR_copyOf_0 rfl (lv_at hl 1 rfl) ?_
  refine lv_aload_n hx hb d_AR_copyOf_1 rfl (lv_at hl 0 rfl) ?_
  refine f_alen (v := nI mm) hx hb hI g_b (fT.ofK hK (t0 := 3) rfl) rfl d_AR_copyOf_2 ?_
  refine lv_icmp_ne (tgt := 14) hx hb d_AR_copyOf_3 (by decide) (fun c_1 => ?_) (fun c_1 => absurd c_1 (fun z => absurd ((n_eq (a := q) (b := mm) (by omega) (by omega)).mp z) (by omega)))
  refine lv_iload_n hx hb d_AR_copyOf_14 rfl (lv_at hl 1 rfl) ?_
  have hzN := hI.2.2.2.1
  refine f_newa (atype := .byte) (a0 := (q, .inl (fun _ => 0))) (cA := (G.2.1 3)) hx hb (hT _ w_62) rfl hI (hK.2 3 _ rfl).2 rfl (nI_pos (by omega)) (nI_clamp (by omega)) (by show q * 1 ≤ _; omega) r4 o4 (by (try dsimp only); omega) (by (try dsimp only); omega) d_AR_copyOf_15 (fun q_2 H eq_2 zq_2 nq_2 hI => ?_)
  generalize eh_3 : fU h q_2 (r4, o4, .inl ((G.2.1 3), q, .inl (fun _ => 0))) = h_3 at hI
  have hX := hX.new (e := .inl ((G.2.1 3), q, .inl (fun _ => 0))) (r := r4) (o := o4) nq_2 (by omega); rw [eh_3] at hX
  have hF := hF.new (c := (r4, o4, .inl ((G.2.1 3), q, .inl (fun _ => 0)))) nq_2; rw [eh_3] at hF
  have g_b : h_3 b = some (r2, o, .inl ((G.2.1 3), mm, .inl f)) := (congrFun eh_3 b).symm.trans (fU_keep g_b (f_neN g_b nq_2))
  have g_q_2 : h_3 q_2 = some (r4, o4, .inl ((G.2.1 3), q, .inl (fun _ => 0))) := (congrFun eh_3 q_2).symm.trans (fU_self _ _ _)
  refine lv_astore_n (lv' := [(2, .ref q_2), (0, .ref b), (1, .int (nI q))]) hx hb d_AR_copyOf_17 rfl hl (by decide) rfl (fun ls hl => ?_)
  refine lv_aload_n hx hb d_AR_copyOf_18 rfl (lv_at hl 1 rfl) ?_
  refine lv_iconst (v := 0) hx hb d_AR_copyOf_19 (by decide) ?_
  refine lv_aload_n hx hb d_AR_copyOf_20 rfl (lv_at hl 0 rfl) ?_
  refine lv_iconst (v := 0) hx hb d_AR_copyOf_21 (by decide) ?_
  refine lv_aload_n hx hb d_AR_copyOf_22 rfl (lv_at hl 1 rfl) ?_
  refine f_alen (v := nI mm) hx hb hI g_b (fT.ofK hK (t0 := 3) rfl) rfl d_AR_copyOf_23 ?_
  refine lv_iload_n hx hb d_AR_copyOf_24 rfl (lv_at hl 2 rfl) ?_
  refine va_mmin hx hb (hml.trans hl.1.symm) hown (hT _ w_241) (hT _ w_242) (hT _ w_12) (hT _ w_243) (Nat.le_of_ble_eq_true rfl) (Nat.le_of_ble_eq_true rfl) (by first | exact Nat.le_of_ble_eq_true rfl | ((try dsimp only); omega)) (by first | exact Nat.le_of_ble_eq_true rfl | ((try dsimp only); omega)) d_AR_copyOf_25 ?_
  refine f_asi (mn_n (Nat.le_of_lt hq) (by omega)) ?_
  refine f_copyi hx hb (hml.trans hl.1.symm) hown (hT _ w_244) (hT _ w_246) (hT _ w_245) (hT _ w_14) hK hI 3 3 g_b hr2 g_q_2 hr4 rfl rfl rfl (by decide) (by decide) (nI_pos (by omega)) (by rw [sb_cl0, nI_clamp (by omega)]; omega) (by rw [sb_cl0, nI_clamp (by omega)]; omega) (fun i _ => hf _) (Nat.le_of_ble_eq_true rfl) (by rw [nfw]; exact Nat.le_of_ble_eq_true rfl) d_AR_copyOf_28 (fun H locs hI => ?_)
  rw [sb_cl0, nI_clamp (n := mm) (by omega)] at hI
  generalize eh_4 : fU h_3 q_2 (r4, o4, .inl ((G.2.1 3), q, .inl (va_cpy f (fun _ => 0) 0 0 mm))) = h_4 at hI
  have hX := hX.set (e := .inl ((G.2.1 3), q, .inl (va_cpy f (fun _ => 0) 0 0 mm))) g_q_2 hr4; rw [eh_4] at hX
  have hF := hF.setN (c := (r4, o4, .inl ((G.2.1 3), q, .inl (va_cpy f (fun _ => 0) 0 0 mm)))) nq_2; rw [eh_4] at hF
  have g_b : h_4 b = some (r2, o, .inl ((G.2.1 3), mm, .inl f)) := (congrFun eh_4 b).symm.trans (fU_keep g_b (f_neN g_b0 nq_2))
  have g_q_2 : h_4 q_2 = some (r4, o4, .inl ((G.2.1 3), q, .inl (va_cpy f (fun _ => 0) 0 0 mm))) := (congrFun eh_4 q_2).symm.trans (fU_self _ _ _)
  refine lv_aload_n hx hb d_AR_copyOf_31 rfl (lv_at hl 0 rfl) ?_
  exact f_aret (v := some q_2) C hr (Or.inr ⟨_, rfl⟩) hI ⟨q_2, rfl, g_q_2, nq_2, hF⟩ hX (by (try dsimp only); omega) (by (try dsimp only); omega) d_AR_copyOf_32
theorem gm_AB_ensureCapacityInternal : gM y_AB_ensureCapacityInternal b_AB_ensureCapacityInternal 3 none 1 := ⟨w_215, w_2, ⟨by decide, by decide⟩, by decide +kernel⟩
set_option maxHeartbeats 4000000 in
set_option maxRecDepth 100000 in
/-- AB_ensureCapacityInternal  -/
theorem c_AB_ensureCapacityInternal (l : Launch) (G : gG) (h : fH) (sz : Nat) (a b r r2 o mm q : Nat) (ml cn : Int32) (f : Nat → Int32) (hr0 : r ≠ 0) (hr2 : r2 ≠ 0) (hrr : r ≠ r2) (g_a : h a = some (r, o, .inr (9, [.ref b, .int 0, .int ml, .int cn]))) (g_b : h b = some (r2, o, .inl (G.2.1 3, mm, .inl f))) (hf : sb_Fit f) (bq : q ≤ 2 * mm + 2) (bm : mm ≤ 60000) : cM l y_AB_ensureCapacityInternal b_AB_ensureCapacityInternal 3 none { frames := 3, cells := gc mm q, slots := gs mm q, locals := 69 } G [.ref a, .int (nI q)] h sz (cQv G h sz (fun h' => ∃ b' f', h' a = some (r, o, .inr (9, [.ref b', .int 0, .int ml, .int cn])) ∧ h' b' = some (r2, o, .inl (G.2.1 3, gw mm q, .inl f')) ∧ sb_Fit f' ∧ (∀ j, j < mm → f' j = f j) ∧ fF (inR [r]) h h')) := by
  refine f_start (by decide) (Nat.le_of_ble_eq_true rfl) ?_
  intro p e s m below meth c ls C hr hsz hI hl
  obtain ⟨hx, hb, hml, hown, hnm, hlk, hT, hG, hZ⟩ := id C
  have hK := hG.1
  have hX : fX h sz h := fX.rf
  have hl : lv_has ls 3 [(0, .ref a), (1, .int (nI q))] := hl
  have hF : fF (inR [r]) h h := fF.rf
  by_cases hq : q ≤ mm
  · skip
    refine lv_aload_n hx hb d_AB_ensureCapacityInternal_0 rfl (lv_at hl 0 rfl) ?_
    refine f_get (C := "java/lang/StringBuilder") (T := T_SB) (N := 4) hx hb (fun w q => hT w (s_SB w q)) hown hK hI g_a rfl 0 (by decide) (hT _ w_48) (fun _ q => q) rfl d_AB_ensureCapacityInternal_1 ?_
    refine f_alen (v := nI mm) hx hb hI g_b (fT.ofK hK (t0 := 3) rfl) rfl d_AB_ensureCapacityInternal_4 ?_
    refine lv_aload_n hx hb d_AB_ensureCapacityInternal_5 rfl (lv_at hl 0 rfl) ?_
    refine f_get (C := "java/lang/StringBuilder") (T := T_SB) (N := 4) hx hb (fun w q => hT w (s_SB w q)) hown hK hI g_a rfl 1 (by decide) (hT _ w_49) (fun _ q => q) rfl d_AB_ensureCapacityInternal_6 ?_
    refine lv_ishr hx hb d_AB_ensureCapacityInternal_9 ?_
    refine f_asi (sb_shr0 _) ?_
    refine lv_istore_n (lv' := [(2, .int (nI mm)), (0, .ref a), (1, .int (nI q))]) hx hb d_AB_ensureCapacityInternal_10 rfl hl (by decide) rfl (fun ls hl => ?_)
    refine lv_iload_n hx hb d_AB_ensureCapacityInternal_11 rfl (lv_at hl 2 rfl) ?_
    refine lv_iload_n hx hb d_AB_ensureCapacityInternal_12 rfl (lv_at hl 0 rfl) ?_
    refine lv_isub hx hb d_AB_ensureCapacityInternal_13 ?_
    refine lv_if_le (tgt := 38) hx hb d_AB_ensureCapacityInternal_14 (by decide) (fun c_1 => ?_) (fun c_1 => absurd ((d_le (by omega) (by omega)).mpr hq) c_1)
    exact f_vret C hr hI ⟨b, f, g_a, by rw [gw_y hq]; exact g_b, hf, fun _ _ => rfl, hF⟩ hX (Nat.zero_le _) (Nat.zero_le _) d_AB_ensureCapacityInternal_38
  · have ec := gc_n hq
    have es := gs_n hq
    refine lv_aload_n hx hb d_AB_ensureCapacityInternal_0 rfl (lv_at hl 0 rfl) ?_
    refine f_get (C := "java/lang/StringBuilder") (T := T_SB) (N := 4) hx hb (fun w q => hT w (s_SB w q)) hown hK hI g_a rfl 0 (by decide) (hT _ w_48) (fun _ q => q) rfl d_AB_ensureCapacityInternal_1 ?_
    refine f_alen (v := nI mm) hx hb hI g_b (fT.ofK hK (t0 := 3) rfl) rfl d_AB_ensureCapacityInternal_4 ?_
    refine lv_aload_n hx hb d_AB_ensureCapacityInternal_5 rfl (lv_at hl 0 rfl) ?_
    refine f_get (C := "java/lang/StringBuilder") (T := T_SB) (N := 4) hx hb (fun w q => hT w (s_SB w q)) hown hK hI g_a rfl 1 (by decide) (hT _ w_49) (fun _ q => q) rfl d_AB_ensureCapacityInternal_6 ?_
    refine lv_ishr hx hb d_AB_ensureCapacityInternal_9 ?_
    refine f_asi (sb_shr0 _) ?_
    refine lv_istore_n (lv' := [(2, .int (nI mm)), (0, .ref a), (1, .int (nI q))]) hx hb d_AB_ensureCapacityInternal_10 rfl hl (by decide) rfl (fun ls hl => ?_)
    refine lv_iload_n hx hb d_AB_ensureCapacityInternal_11 rfl (lv_at hl 2 rfl) ?_
    refine lv_iload_n hx hb d_AB_ensureCapacityInternal_12 rfl (lv_at hl 0 rfl) ?_
    refine lv_isub hx hb d_AB_ensureCapacityInternal_13 ?_
    refine lv_if_le (tgt := 38) hx hb d_AB_ensureCapacityInternal_14 (by decide) (fun c_2 => absurd c_2 (fun z => hq ((d_le (by omega) (by omega)).mp z))) (fun c_2 => ?_)
    refine lv_aload_n hx hb d_AB_ensureCapacityInternal_17 rfl (lv_at hl 1 rfl) ?_
    refine lv_aload_n hx hb d_AB_ensureCapacityInternal_18 rfl (lv_at hl 1 rfl) ?_
    refine f_get (C := "java/lang/StringBuilder") (T := T_SB) (N := 4) hx hb (fun w q => hT w (s_SB w q)) hown hK hI g_a rfl 0 (by decide) (hT _ w_48) (fun _ q => q) rfl d_AB_ensureCapacityInternal_19 ?_
    refine lv_aload_n hx hb d_AB_ensureCapacityInternal_22 rfl (lv_at hl 1 rfl) ?_
    refine lv_iload_n hx hb d_AB_ensureCapacityInternal_23 rfl (lv_at hl 2 rfl) ?_
    have hzA := hI.2.2.2.1
    refine f_calli hI (f_runU (C := "java/lang/StringBuilder") C hI (c_AB_newCapacity l G h _ a b r r2 o mm q ml cn f g_a g_b (by omega) (by omega) (by omega)) gm_AB_newCapacity w_218 w_219 ⟨by decide, by decide⟩ rfl w_218 p_AB_newCapacity w_1099 w_216 g_a rfl rfl rfl hl.1 rfl (Nat.le_of_ble_eq_true rfl) ⟨Nat.le_of_ble_eq_true rfl, Nat.le_of_ble_eq_true rfl⟩ d_AB_ensureCapacityInternal_24 ⟨by (try dsimp only); omega, by (try dsimp only); omega⟩) (fun r_3 h8 H9 locs hp9 hX9 hz9 hI => ?_)
    obtain ⟨rfl, e9⟩ := hp9
    rw [e9] at hI
    clear hX9 e9
    refine lv_aload_n hx hb d_AB_ensureCapacityInternal_27 rfl (lv_at hl 1 rfl) ?_
    refine f_get (C := "java/lang/StringBuilder") (T := T_SB) (N := 4) hx hb (fun w q => hT w (s_SB w q)) hown hK hI g_a rfl 1 (by decide) (hT _ w_49) (fun _ q => q) rfl d_AB_ensureCapacityInternal_28 ?_
    refine lv_ishl hx hb d_AB_ensureCapacityInternal_31 ?_
    refine f_asi (sb_shl0 _) ?_
    have hzA := hI.2.2.2.1
    refine f_callq hI (f_runS C hI (c_AR_copyOf l G h _ b r2 o mm (2 * mm + 2) r2 o f hr2 hr2 g_b hf (by omega) (by omega)) gm_AR_copyOf w_232 w_231 rfl hl.1 rfl (Nat.le_of_ble_eq_true rfl) ⟨Nat.le_of_ble_eq_true rfl, Nat.le_of_ble_eq_true rfl⟩ d_AB_ensureCapacityInternal_32 ⟨by (try dsimp only); omega, by (try dsimp only); omega⟩) (fun r_4 h9 H9 locs hp9 hX9 hz9 hI => ?_)
    obtain ⟨c1, rfl, g_c, nc, hF9⟩ := hp9
    have hX := fX.tr (Nat.le_trans (Nat.le_of_eq hsz.symm) hzA) hX hX9
    have g_a := hF9 _ _ _ _ g_a inR0
    have g_b := hF9 _ _ _ _ g_b inR0
    have hF := hF.tr (hF9.mono (fun r9 _ q => (by simp [inR] at q ⊢; (try omega) : inR [r] r9 _)))
    refine f_put (C := "java/lang/StringBuilder") (T := T_SB) (N := 4) (fs' := [.ref c1, .int 0, .int ml, .int cn]) (v := .ref c1) hx hb (fun w q => hT w (s_SB w q)) t_SB k_SB n_SB hown hK hI g_a hr0 rfl 0 (by decide) (hT _ w_48) (fun _ q => q) rfl rfl rfl (Nat.le_of_ble_eq_true rfl) rfl d_AB_ensureCapacityInternal_35 (fun H locs hI => ?_)
    generalize eh_5 : fU h9 a (r, o, .inr (9, [.ref c1, .int 0, .int ml, .int cn])) = h_5 at hI
    have hX := hX.set (e := .inr (9, [.ref c1, .int 0, .int ml, .int cn])) g_a hr0; rw [eh_5] at hX
    have hF := hF.set (e := .inr (9, [.ref c1, .int 0, .int ml, .int cn])) g_a (show r ∈ [r] from by simp); rw [eh_5] at hF
    have g_b : h_5 b = some (r2, o, .inl ((G.2.1 3), mm, .inl f)) := (congrFun eh_5 b).symm.trans (fU_keep g_b (f_neR g_b g_a (Ne.symm hrr)))
    have g_c : h_5 c1 = some (r2, o, .inl ((G.2.1 3), (2 * mm + 2), .inl (va_cpy f (fun _ => 0) 0 0 mm))) := (congrFun eh_5 c1).symm.trans (fU_keep g_c (f_neR g_c g_a (Ne.symm hrr)))
    have g_a : h_5 a = some (r, o, .inr (9, [.ref c1, .int 0, .int ml, .int cn])) := (congrFun eh_5 a).symm.trans (fU_self _ _ _)
    exact f_vret C hr hI ⟨c1, va_cpy f (fun _ => 0) 0 0 mm, g_a, by rw [gw_n hq]; exact g_c, sb_fitC hf sb_fit0, fun j hj => sb_cpy0 hj, hF⟩ hX (by (try dsimp only); omega) (by (try dsimp only); omega) d_AB_ensureCapacityInternal_38
