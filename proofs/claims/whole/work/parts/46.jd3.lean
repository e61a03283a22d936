theorem gm_AB_append : gM y_AB_append b_AB_append 2 (some (.object "java/lang/AbstractStringBuilder")) 1 := ⟨w_211, w_2, ⟨by decide, by decide⟩, by decide +kernel⟩
set_option maxHeartbeats 4000000 in
set_option maxRecDepth 100000 in
/-- AB_append  -/
theorem c_AB_append (l : Launch) (G : gG) (h : fH) (sz : Nat) (a r r2 o mm n ch : Nat) (tx : Nat → Nat) (hr0 : r ≠ 0) (hr2 : r2 ≠ 0) (hrr : r ≠ r2) (hB : bS G h r r2 o a mm n tx) (bc : ch < 256) (bm : mm ≤ 29000) : cM l y_AB_append b_AB_append 2 (some (.object "java/lang/AbstractStringBuilder")) { frames := 4, cells := gc mm (n + 1), slots := gs mm (n + 1), locals := 91 } G [.ref a, .int (nI ch)] h sz (cQq G h sz (fun x h' => x = some a ∧ bS G h' r r2 o a (gw mm (n + 1)) (n + 1) (va_up tx n ch) ∧ fF (inR [r, r2]) h h')) := by
  refine f_start (by decide) (Nat.le_of_ble_eq_true rfl) ?_
  intro p e s m below meth c ls C hr hsz hI hl
  obtain ⟨hx, hb, hml, hown, hnm, hlk, hT, hG, hZ⟩ := id C
  have hK := hG.1
  have hX : fX h sz h := fX.rf
  have hl : lv_has ls 2 [(0, .ref a), (1, .int (nI ch))] := hl
  obtain ⟨b, ml, f, g_a, g_b, hL, hf, bn, b16, bm0⟩ := id hB
  have hF : fF (inR [r, r2]) h h := fF.rf
  have hgb := gw_b (mm := mm) (q := n + 1) (by omega)
  refine lv_aload_n hx hb d_AB_append_0 rfl (lv_at hl 0 rfl) ?_
  refine lv_aload_n hx hb d_AB_append_1 rfl (lv_at hl 0 rfl) ?_
  refine f_get (C := "java/lang/StringBuilder") (T := T_SB) (N := 4) hx hb (fun w q => hT w (s_SB w q)) hown hK hI g_a rfl 3 (by decide) (hT _ w_52) (fun _ q => q) rfl d_AB_append_2 ?_
  refine lv_iconst (v := 1) hx hb d_AB_append_5 (by decide) ?_
  refine lv_iadd hx hb d_AB_append_6 ?_
  refine f_asi (nI_add n 1) ?_
  have hzA := hI.2.2.2.1
  refine f_callv hI (f_runU (C := "java/lang/StringBuilder") C hI (c_AB_ensureCapacityInternal l G h _ a b r r2 o mm (n + 1) ml (nI n) f hr0 hr2 hrr g_a g_b hf (by omega) (by omega)) gm_AB_ensureCapacityInternal w_214 w_215 ⟨by decide, by decide⟩ rfl w_214 p_AB_ensureCapacityInternal w_1098 w_212 g_a rfl rfl rfl hl.1 rfl (Nat.le_of_ble_eq_true rfl) ⟨Nat.le_of_ble_eq_true rfl, Nat.le_of_ble_eq_true rfl⟩ d_AB_append_7 ⟨by (try dsimp only); omega, by (try dsimp only); omega⟩) (fun h9 H9 locs hp9 hX9 hz9 hI => ?_)
  obtain ⟨b2, f2, g_a, g_b2, hf2, hk2, hF9⟩ := hp9
  have hX := fX.tr (Nat.le_trans (Nat.le_of_eq hsz.symm) hzA) hX hX9
  have hF := hF.tr (hF9.mono (fun r9 _ q => (by simp [inR] at q ⊢; (try omega) : inR [r, r2] r9 _)))
  refine lv_aload_n hx hb d_AB_append_10 rfl (lv_at hl 0 rfl) ?_
  have hzA := hI.2.2.2.1
  refine f_calli hI (f_runU (C := "java/lang/StringBuilder") C hI (c_AB_isLatin1 l G h9 _ a b2 r o ml (nI n) g_a) gm_AB_isLatin1 w_248 w_251 ⟨by decide, by decide⟩ rfl w_248 w_250 w_249 w_247 g_a rfl rfl rfl hl.1 rfl (Nat.le_of_ble_eq_true rfl) ⟨Nat.le_of_ble_eq_true rfl, Nat.le_of_ble_eq_true rfl⟩ d_AB_append_11 ⟨by (try dsimp only); omega, by (try dsimp only); omega⟩) (fun r_2 h8 H9 locs hp9 hX9 hz9 hI => ?_)
  obtain ⟨rfl, e9⟩ := hp9
  rw [e9] at hI
  clear hX9 e9
  refine lv_if_eq (tgt := 45) hx hb d_AB_append_14 (by decide) (fun c_3 => absurd c_3 (by decide)) (fun c_3 => ?_)
  refine lv_iload_n hx hb d_AB_append_17 rfl (lv_at hl 1 rfl) ?_
  refine f_calli hI (f_runS C hI (c_L1_canEncode l G h9 _ (nI ch)) gm_L1_canEncode w_253 w_252 rfl hl.1 rfl (Nat.le_of_ble_eq_true rfl) ⟨Nat.le_of_ble_eq_true rfl, Nat.le_of_ble_eq_true rfl⟩ d_AB_append_18 ⟨by (try dsimp only); omega, by (try dsimp only); omega⟩) (fun r_4 h8 H9 locs hp9 hX9 hz9 hI => ?_)
  obtain ⟨rfl, e9⟩ := hp9
  rw [e9] at hI
  clear hX9 e9
  refine f_asi (if_neg (fun q => absurd ((n_lt (a := 255) (b := ch) (by omega) (by omega)).mp q) (by omega))) ?_
  refine lv_if_eq (tgt := 45) hx hb d_AB_append_21 (by decide) (fun c_5 => absurd c_5 (by decide)) (fun c_5 => ?_)
  refine lv_aload_n hx hb d_AB_append_24 rfl (lv_at hl 0 rfl) ?_
  refine f_get (C := "java/lang/StringBuilder") (T := T_SB) (N := 4) hx hb (fun w q => hT w (s_SB w q)) hown hK hI g_a rfl 0 (by decide) (hT _ w_48) (fun _ q => q) rfl d_AB_append_25 ?_
  refine lv_aload_n hx hb d_AB_append_28 rfl (lv_at hl 0 rfl) ?_
  refine lv_dup hx hb d_AB_append_29 rfl ?_
  refine f_get (C := "java/lang/StringBuilder") (T := T_SB) (N := 4) hx hb (fun w q => hT w (s_SB w q)) hown hK hI g_a rfl 3 (by decide) (hT _ w_52) (fun _ q => q) rfl d_AB_append_30 ?_
  refine lv_dup_x1 hx hb d_AB_append_33 rfl rfl ?_
  refine lv_iconst (v := 1) hx hb d_AB_append_34 (by decide) ?_
  refine lv_iadd hx hb d_AB_append_35 ?_
  refine f_asi (nI_add n 1) ?_
  refine f_put (C := "java/lang/StringBuilder") (T := T_SB) (N := 4) (fs' := [.ref b2, .int 0, .int ml, .int (nI (n + 1))]) (v := .int (nI (n + 1))) hx hb (fun w q => hT w (s_SB w q)) t_SB k_SB n_SB hown hK hI g_a hr0 rfl 3 (by decide) (hT _ w_52) (fun _ q => q) rfl rfl rfl (Nat.le_of_ble_eq_true rfl) rfl d_AB_append_36 (fun H locs hI => ?_)
  generalize eh_6 : fU h9 a (r, o, .inr (9, [.ref b2, .int 0, .int ml, .int (nI (n + 1))])) = h_6 at hI
  have hX := hX.set (e := .inr (9, [.ref b2, .int 0, .int ml, .int (nI (n + 1))])) g_a hr0; rw [eh_6] at hX
  have hF := hF.set (e := .inr (9, [.ref b2, .int 0, .int ml, .int (nI (n + 1))])) g_a (show r ∈ [r, r2] from by simp); rw [eh_6] at hF
  have g_b2 : h_6 b2 = some (r2, o, .inl ((G.2.1 3), (gw mm (n + 1)), .inl f2)) := (congrFun eh_6 b2).symm.trans (fU_keep g_b2 (f_neR g_b2 g_a (Ne.symm hrr)))
  have g_a : h_6 a = some (r, o, .inr (9, [.ref b2, .int 0, .int ml, .int (nI (n + 1))])) := (congrFun eh_6 a).symm.trans (fU_self _ _ _)
  refine lv_iload_n hx hb d_AB_append_39 rfl (lv_at hl 1 rfl) ?_
  refine lv_i2b hx hb d_AB_append_40 rfl ?_
  refine f_bastn (k := n) (f' := (upd f2 n (sb_b ch))) hx hb hI g_b2 hr2 (fT.ofK hK (t0 := 3) rfl) (by omega) (by omega) (congrArg (upd f2 n) (b_b _)) d_AB_append_41 (fun H locs hI => ?_)
  generalize eh_7 : fU h_6 b2 (r2, o, .inl ((G.2.1 3), (gw mm (n + 1)), .inl (upd f2 n (sb_b ch)))) = h_7 at hI
  have hX := hX.set (e := .inl ((G.2.1 3), (gw mm (n + 1)), .inl (upd f2 n (sb_b ch)))) g_b2 hr2; rw [eh_7] at hX
  have hF := hF.set (e := .inl ((G.2.1 3), (gw mm (n + 1)), .inl (upd f2 n (sb_b ch)))) g_b2 (show r2 ∈ [r, r2] from by simp); rw [eh_7] at hF
  have g_a : h_7 a = some (r, o, .inr (9, [.ref b2, .int 0, .int ml, .int (nI (n + 1))])) := (congrFun eh_7 a).symm.trans (fU_keep g_a (f_neR g_a g_b2 hrr))
  have g_b2 : h_7 b2 = some (r2, o, .inl ((G.2.1 3), (gw mm (n + 1)), .inl (upd f2 n (sb_b ch)))) := (congrFun eh_7 b2).symm.trans (fU_self _ _ _)
  refine lv_goto (tgt := 75) hx hb d_AB_append_42 (by decide) ?_
  refine lv_aload_n hx hb d_AB_append_75 rfl (lv_at hl 0 rfl) ?_
  exact f_aret (v := some a) C hr (Or.inl ⟨_, rfl⟩) hI ⟨rfl, ⟨b2, ml, upd f2 n (sb_b ch), g_a, g_b2, lat_put hL bc (fun j hj => by rw [pk_un (by omega)]; exact hk2 j (by omega)) pk_us, sb_fitU hf2 (sb_fitB ch), by omega, by omega, by omega⟩, hF⟩ hX (by (try dsimp only); omega) (by (try dsimp only); omega) d_AB_append_76
theorem gm_SB_append : gM y_SB_append b_SB_append 2 (some (.object "java/lang/StringBuilder")) 1 := ⟨w_208, w_3, ⟨by decide, by decide⟩, by decide +kernel⟩
set_option maxHeartbeats 4000000 in
set_option maxRecDepth 100000 in
/-- SB_append  -/
theorem c_SB_append (l : Launch) (G : gG) (h : fH) (sz : Nat) (a r r2 o mm n ch : Nat) (tx : Nat → Nat) (hr0 : r ≠ 0) (hr2 : r2 ≠ 0) (hrr : r ≠ r2) (hB : bS G h r r2 o a mm n tx) (bc : ch < 256) (bm : mm ≤ 29000) : cM l y_SB_append b_SB_append 2 (some (.object "java/lang/StringBuilder")) { frames := 5, cells := gc mm (n + 1), slots := gs mm (n + 1), locals := 112 } G [.ref a, .int (nI ch)] h sz (cQq G h sz (fun x h' => x = some a ∧ bS G h' r r2 o a (gw mm (n + 1)) (n + 1) (va_up tx n ch) ∧ fF (inR [r, r2]) h h')) := by
  refine f_start (by decide) (Nat.le_of_ble_eq_true rfl) ?_
  intro p e s m below meth c ls C hr hsz hI hl
  obtain ⟨hx, hb, hml, hown, hnm, hlk, hT, hG, hZ⟩ := id C
  have hK := hG.1
  have hX : fX h sz h := fX.rf
  have hl : lv_has ls 2 [(0, .ref a), (1, .int (nI ch))] := hl
  obtain ⟨b, ml, f, g_a, g_b, hL, hf, bn, b16, bm0⟩ := id hB
  refine lv_aload_n hx hb d_SB_append_0 rfl (lv_at hl 0 rfl) ?_
  refine lv_iload_n hx hb d_SB_append_1 rfl (lv_at hl 1 rfl) ?_
  have hzA := hI.2.2.2.1
  refine f_callq hI (f_runSU C hI (c_AB_append l G h _ a r r2 o mm n ch tx hr0 hr2 hrr hB bc bm) gm_AB_append w_210 w_1097 w_61 (by decide) w_209 g_a rfl rfl hl.1 rfl (Nat.le_of_ble_eq_true rfl) ⟨Nat.le_of_ble_eq_true rfl, Nat.le_of_ble_eq_true rfl⟩ d_SB_append_2 ⟨by (try dsimp only); omega, by (try dsimp only); omega⟩) (fun r_1 h9 H9 locs hp9 hX9 hz9 hI => ?_)
  obtain ⟨rfl, hB9, hF9⟩ := hp9
  have hX := fX.tr (Nat.le_trans (Nat.le_of_eq hsz.symm) hzA) hX hX9
  refine lv_pop hx hb d_SB_append_5 rfl ?_
  refine lv_aload_n hx hb d_SB_append_6 rfl (lv_at hl 0 rfl) ?_
  exact f_aret (v := some a) C hr (Or.inl ⟨_, rfl⟩) hI ⟨rfl, hB9, hF9⟩ hX (by (try dsimp only); omega) (by (try dsimp only); omega) d_SB_append_7
theorem gm_IN_stringSize : gM y_IN_stringSize b_IN_stringSize 4 (some .int) 1 := ⟨w_515, w_19, ⟨by decide, by decide⟩, by decide +kernel⟩
set_option maxHeartbeats 4000000 in
set_option maxRecDepth 100000 in
/-- IN_stringSize  -/
theorem c_IN_stringSize (l : Launch) (G : gG) (h : fH) (sz : Nat) (v : Nat) (bv : v < 1000000000) : cM l y_IN_stringSize b_IN_stringSize 4 (some .int) { frames := 0, cells := 0, slots := 0, locals := 0 } G [.int (nI v)] h sz (cQi G h sz (fun x h' => x = nI (sb_dg v) ∧ h' = h)) := by
  refine f_start (by decide) (Nat.le_of_ble_eq_true rfl) ?_
  intro p e s m below meth c ls C hr hsz hI hl
  obtain ⟨hx, hb, hml, hown, hnm, hlk, hT, hG, hZ⟩ := id C
  have hK := hG.1
  have hX : fX h sz h := fX.rf
  have hl : lv_has ls 4 [(0, .int (nI v))] := hl
  obtain ⟨hd1, hd2, hd3, hd4⟩ := dg_pow bv
  have J16 : ∀ (k i : Nat), i + k = sb_dg v → 1 ≤ i → ∀ ls : Array Slot, lv_has ls 4 [(0, .int (-nI v)), (1, .int 0), (2, .int (-nI (10 ^ i))), (3, .int (nI i))] → W p l e { frames := 0, cells := 0, slots := 0, locals := 0 } s m ([.int (nI v)] : List Value).toArray below meth c s.heap [] 0 0 (MQ below (cQi G h sz (fun x h' => x = nI (sb_dg v) ∧ h' = h)) ([.int (nI v)] : List Value).toArray s 0 0 (fA h sz)) (F0 m 16 ls []) := by
    intro k
    induction k with
    | zero =>
      intro i hi h1 ls hl
      have hp9 := p10_9 (t := i) (by omega)
      have hvi : v < 10 ^ i := by rw [show i = sb_dg v by omega]; exact hd1
      refine lv_iload_n hx hb d_IN_stringSize_16 rfl (lv_at hl 3 rfl) ?_
      refine lv_bipush (v := 10) hx hb d_IN_stringSize_17 (by decide) ?_
      refine lv_icmp_ge (tgt := 42) hx hb d_IN_stringSize_19 (by decide) (fun c_1 => absurd c_1 (fun q => absurd ((n_le (a := 10) (b := i) (by omega) (by omega)).mp q) (by omega))) (fun c_1 => ?_)
      refine lv_iload_n hx hb d_IN_stringSize_22 rfl (lv_at hl 0 rfl) ?_
      refine lv_iload_n hx hb d_IN_stringSize_23 rfl (lv_at hl 2 rfl) ?_
      refine lv_icmp_le (tgt := 31) hx hb d_IN_stringSize_24 (by decide) (fun c_2 => absurd c_2 (fun q => absurd ((sb_nle (a := v) (b := 10 ^ i) (by omega) (by omega)).mp q) (by omega))) (fun c_2 => ?_)
      refine lv_iload_n hx hb d_IN_stringSize_27 rfl (lv_at hl 3 rfl) ?_
      refine lv_iload_n hx hb d_IN_stringSize_28 rfl (lv_at hl 1 rfl) ?_
      refine lv_iadd hx hb d_IN_stringSize_29 ?_
      refine f_asi (nI_add i 0) ?_
      exact f_iret C hr hI ⟨congrArg nI (by omega), rfl⟩ hX (Nat.le_refl _) (Nat.le_refl _) d_IN_stringSize_30
    | succ k ih =>
      intro i hi h1 ls hl
      have ih : ∀ i : Nat, i + k = sb_dg v → 1 ≤ i → ∀ ls : Array Slot, lv_has ls 4 [(0, .int (-nI v)), (1, .int 0), (2, .int (-nI (10 ^ i))), (3, .int (nI i))] → W p l e { frames := 0, cells := 0, slots := 0, locals := 0 } s m ([.int (nI v)] : List Value).toArray below meth c s.heap [] 0 0 (MQ below (cQi G h sz (fun x h' => x = nI (sb_dg v) ∧ h' = h)) ([.int (nI v)] : List Value).toArray s 0 0 (fA h sz)) (F0 m 16 ls []) := ih
      have hp9 := p10_9 (t := i) (by omega)
      have hvi : 10 ^ i ≤ v := Nat.le_trans (Nat.pow_le_pow_right (by decide) (by omega)) (hd2 (by omega))
      refine lv_iload_n hx hb d_IN_stringSize_16 rfl (lv_at hl 3 rfl) ?_
      refine lv_bipush (v := 10) hx hb d_IN_stringSize_17 (by decide) ?_
      refine lv_icmp_ge (tgt := 42) hx hb d_IN_stringSize_19 (by decide) (fun c_3 => absurd c_3 (fun q => absurd ((n_le (a := 10) (b := i) (by omega) (by omega)).mp q) (by omega))) (fun c_3 => ?_)
      refine lv_iload_n hx hb d_IN_stringSize_22 rfl (lv_at hl 0 rfl) ?_
      refine lv_iload_n hx hb d_IN_stringSize_23 rfl (lv_at hl 2 rfl) ?_
      refine lv_icmp_le (tgt := 31) hx hb d_IN_stringSize_24 (by decide) (fun c_4 => ?_) (fun c_4 => absurd ((sb_nle (a := v) (b := 10 ^ i) (by omega) (by omega)).mpr hvi) c_4)
      refine lv_bipush (v := 10) hx hb d_IN_stringSize_31 (by decide) ?_
      refine lv_iload_n hx hb d_IN_stringSize_33 rfl (lv_at hl 2 rfl) ?_
      refine lv_imul hx hb d_IN_stringSize_34 ?_
      refine f_asi (show (10 : Int32) * -nI (10 ^ i) = -nI (10 ^ (i + 1)) by rw [m10, Nat.pow_succ]) ?_
      refine lv_istore_n (lv' := [(2, .int (-nI (10 ^ (i + 1)))), (0, .int (-nI v)), (1, .int 0), (3, .int (nI i))]) hx hb d_IN_stringSize_35 rfl hl (by decide) rfl (fun ls hl => ?_)
      refine lv_iinc (v := nI (i + 1)) (lv' := [(3, .int (nI (i + 1))), (2, .int (-nI (10 ^ (i + 1)))), (0, .int (-nI v)), (1, .int 0)]) hx hb d_IN_stringSize_36 hl (k := 3) rfl (f_inc1 _) (by decide) rfl (fun ls hl => ?_)
      refine lv_goto (tgt := 16) hx hb d_IN_stringSize_39 (by decide) ?_
      refine ih (i + 1) (by omega) (by omega) ls ?_
      exact lv_sub hl [2, 3, 1, 0] rfl
  refine lv_iconst (v := 1) hx hb d_IN_stringSize_0 (by decide) ?_
  refine lv_istore_n (lv' := [(1, .int 1), (0, .int (nI v))]) hx hb d_IN_stringSize_1 rfl hl (by decide) rfl (fun ls hl => ?_)
  refine lv_iload_n hx hb d_IN_stringSize_2 rfl (lv_at hl 1 rfl) ?_
  refine lv_if_lt (tgt := 11) hx hb d_IN_stringSize_3 (by decide) (fun c_5 => absurd c_5 (nI_pos (by omega))) (fun c_5 => ?_)
  refine lv_iconst (v := 0) hx hb d_IN_stringSize_6 (by decide) ?_
  refine lv_istore_n (lv' := [(1, .int 0), (0, .int (nI v))]) hx hb d_IN_stringSize_7 rfl hl (by decide) rfl (fun ls hl => ?_)
  refine lv_iload_n hx hb d_IN_stringSize_8 rfl (lv_at hl 1 rfl) ?_
  refine lv_ineg hx hb d_IN_stringSize_9 ?_
  refine lv_istore_n (lv' := [(0, .int (-(nI v))), (1, .int 0)]) hx hb d_IN_stringSize_10 rfl hl (by decide) rfl (fun ls hl => ?_)
  refine lv_bipush (v := (-10)) hx hb d_IN_stringSize_11 (by decide) ?_
  refine lv_istore_n (lv' := [(2, .int (-10)), (0, .int (-(nI v))), (1, .int 0)]) hx hb d_IN_stringSize_13 rfl hl (by decide) rfl (fun ls hl => ?_)
  refine lv_iconst (v := 1) hx hb d_IN_stringSize_14 (by decide) ?_
  refine lv_istore_n (lv' := [(3, .int 1), (2, .int (-10)), (0, .int (-(nI v))), (1, .int 0)]) hx hb d_IN_stringSize_15 rfl hl (by decide) rfl (fun ls hl => ?_)
  refine J16 (sb_dg v - 1) 1 (by omega) (by omega) ls ?_
  exact lv_sub hl [2, 3, 1, 0] rfl
theorem gm_IN_getChars : gM y_IN_getChars b_IN_getChars 7 (some .int) 3 := ⟨w_518, w_19, ⟨by decide, by decide⟩, by decide +kernel⟩
set_option maxHeartbeats 4000000 in
set_option maxRecDepth 100000 in
/-- IN_getChars  -/
theorem c_IN_getChars (l : Launch) (G : gG) (h : fH) (sz : Nat) (b r2 o mm v pp n : Nat) (f : Nat → Int32) (hr2 : r2 ≠ 0) (g_b : h b = some (r2, o, .inl (G.2.1 3, mm, .inl f))) (hp : pp = n + sb_dg v) (bp : pp ≤ mm) (bm : mm ≤ 65536) (bv : v < 1000000000) (hD : dT G h) : cM l y_IN_getChars b_IN_getChars 7 (some .int) { frames := 0, cells := 0, slots := 0, locals := 0 } G [.int (nI v), .int (nI pp), .ref b] h sz (cQi G h sz (fun x h' => ∃ f', h' b = some (r2, o, .inl (G.2.1 3, mm, .inl f')) ∧ ((∀ j, j < n → f' j = f j) ∧ (∀ i, i < sb_dg v → f' (n + i) = sb_b (sb_dec v i)) ∧ (sb_Fit f → sb_Fit f')) ∧ fF (inR [r2]) h h')) := by
  refine f_start (by decide) (Nat.le_of_ble_eq_true rfl) ?_
  intro p e s m below meth c ls C hr hsz hI hl
  obtain ⟨hx, hb, hml, hown, hnm, hlk, hT, hG, hZ⟩ := id C
  have hK := hG.1
  have hX : fX h sz h := fX.rf
  have hl : lv_has ls 7 [(0, .int (nI v)), (1, .int (nI pp)), (2, .ref b)] := hl
  have hz1 : va_Z "java/lang/Integer" "DigitOnes" "[B" (.ref (G.2.2.2 100)) (fA h sz) s s.heap := hZ _ (List.mem_of_getElem? (i := 1) rfl)
  have hz2 : va_Z "java/lang/Integer" "DigitTens" "[B" (.ref (G.2.2.2 101)) (fA h sz) s s.heap := hZ _ (List.mem_of_getElem? (i := 2) rfl)
  obtain ⟨d1, d2, t1, t2, g_t1, g_t2, hd1, hd2, hdt⟩ := id hD
  have hF : fF (inR [r2]) h h := fF.rf
  have J22 : ∀ (F w : Nat), w < F → w < 2 ^ 31 → n + sb_dg w ≤ mm → ∀ f1 : Nat → Int32, (∀ f' : Nat → Int32, (∀ j, j < n ∨ n + sb_dg w ≤ j → f' j = f1 j) → (∀ i, i < sb_dg w → f' (n + sb_dg w - 1 - i) = sb_b (48 + w / 10 ^ i % 10)) → (sb_Fit f1 → sb_Fit f') → ((∀ j, j < n → f' j = f j) ∧ (∀ i, i < sb_dg v → f' (n + i) = sb_b (sb_dec v i)) ∧ (sb_Fit f → sb_Fit f'))) → ∀ (h1 : fH) (H : Heap) (locs : List Loc), h1 b = some (r2, o, .inl ((G.2.1 3), mm, .inl f1)) → h1 (G.2.2.2 100) = some (0, 100, .inl (d1, 100, .inl t1)) → h1 (G.2.2.2 101) = some (0, 101, .inl (d2, 100, .inl t2)) → fF (inR [r2]) h h1 → fX h sz h1 → fI G.1 g_cl (fA h sz) s.heap h1 H locs → ∀ ls : Array Slot, lv_has ls 7 [(0, .int (-nI w)), (2, .ref b), (5, .int (nI (n + sb_dg w))), (6, .int 0)] → W p l e { frames := 0, cells := 0, slots := 0, locals := 0 } s m ([.int (nI v), .int (nI pp), .ref b] : List Value).toArray below meth c H locs 0 0 (MQ below (cQi G h sz (fun x h' => ∃ f', h' b = some (r2, o, .inl (G.2.1 3, mm, .inl f')) ∧ ((∀ j, j < n → f' j = f j) ∧ (∀ i, i < sb_dg v → f' (n + i) = sb_b (sb_dec v i)) ∧ (sb_Fit f → sb_Fit f')) ∧ fF (inR [r2]) h h')) ([.int (nI v), .int (nI pp), .ref b] : List Value).toArray s 0 0 (fA h sz)) (F0 m 22 ls []) := by
    intro F
    induction F with
    | zero => intro w hw; omega
    | succ F ih =>
      intro w hwF hw hpm f1 hP h1 H locs g_b g_t1 g_t2 hF hX hI ls hl
      have ih : ∀ w : Nat, w < F → w < 2 ^ 31 → n + sb_dg w ≤ mm → ∀ f1 : Nat → Int32, (∀ f' : Nat → Int32, (∀ j, j < n ∨ n + sb_dg w ≤ j → f' j = f1 j) → (∀ i, i < sb_dg w → f' (n + sb_dg w - 1 - i) = sb_b (48 + w / 10 ^ i % 10)) → (sb_Fit f1 → sb_Fit f') → ((∀ j, j < n → f' j = f j) ∧ (∀ i, i < sb_dg v → f' (n + i) = sb_b (sb_dec v i)) ∧ (sb_Fit f → sb_Fit f'))) → ∀ (h1 : fH) (H : Heap) (locs : List Loc), h1 b = some (r2, o, .inl ((G.2.1 3), mm, .inl f1)) → h1 (G.2.2.2 100) = some (0, 100, .inl (d1, 100, .inl t1)) → h1 (G.2.2.2 101) = some (0, 101, .inl (d2, 100, .inl t2)) → fF (inR [r2]) h h1 → fX h sz h1 → fI G.1 g_cl (fA h sz) s.heap h1 H locs → ∀ ls : Array Slot, lv_has ls 7 [(0, .int (-nI w)), (2, .ref b), (5, .int (nI (n + sb_dg w))), (6, .int 0)] → W p l e { frames := 0, cells := 0, slots := 0, locals := 0 } s m ([.int (nI v), .int (nI pp), .ref b] : List Value).toArray below meth c H locs 0 0 (MQ below (cQi G h sz (fun x h' => ∃ f', h' b = some (r2, o, .inl (G.2.1 3, mm, .inl f')) ∧ ((∀ j, j < n → f' j = f j) ∧ (∀ i, i < sb_dg v → f' (n + i) = sb_b (sb_dec v i)) ∧ (sb_Fit f → sb_Fit f')) ∧ fF (inR [r2]) h h')) ([.int (nI v), .int (nI pp), .ref b] : List Value).toArray s 0 0 (fA h sz)) (F0 m 22 ls []) := ih
      have hdw := sb_dg_in w
      by_cases h100 : w < 100
      · by_cases h9 : w < 10
        · have hd : sb_dg w = 1 := if_pos h9
          refine lv_iload_n hx hb d_IN_getChars_22 rfl (lv_at hl 0 rfl) ?_
          refine lv_bipush (v := (-100)) hx hb d_IN_getChars_23 (by decide) ?_
          refine lv_icmp_gt (tgt := 72) hx hb d_IN_getChars_25 (by decide) (fun c_1 => ?_) (fun c_1 => absurd ((sb_nlt (a := 100) (b := w) (by decide) (by omega)).mpr h100) c_1)
          refine lv_aload_n hx hb d_IN_getChars_72 rfl (lv_at hl 1 rfl) ?_
          refine lv_iinc (v := nI ((n + sb_dg w) - 1)) (lv' := [(5, .int (nI ((n + sb_dg w) - 1))), (0, .int (-nI w)), (2, .ref b), (6, .int 0)]) hx hb d_IN_getChars_73 hl (k := 2) rfl (f_dec1 (by omega)) (by decide) rfl (fun ls hl => ?_)
          refine lv_iload hx hb d_IN_getChars_76 (lv_at hl 0 rfl) ?_
          refine va_gets (v := .ref (G.2.2.2 100)) hx hb hz1 hI.2.2.2 hown (hT _ w_519) (fun _ q => q) d_IN_getChars_78 ?_
          refine lv_iload_n hx hb d_IN_getChars_81 rfl (lv_at hl 1 rfl) ?_
          refine lv_ineg hx hb d_IN_getChars_82 ?_
          refine f_asi Int32.neg_neg ?_
          refine f_baldn (k := w) (v := (sb_b (48 + w % 10))) hx hb hI g_t1 (gB.fT hG hd1) (by omega) (by omega) (hdt w (by omega)).1 d_IN_getChars_83 ?_
          refine f_bastn (k := ((n + sb_dg w) - 1)) (f' := (upd f1 ((n + sb_dg w) - 1) (sb_b (48 + w % 10)))) hx hb hI g_b hr2 (fT.ofK hK (t0 := 3) rfl) (by omega) (by omega) (congrArg (upd f1 ((n + sb_dg w) - 1)) (sb_bb _)) d_IN_getChars_84 (fun H locs hI => ?_)
          generalize eh_2 : fU h1 b (r2, o, .inl ((G.2.1 3), mm, .inl (upd f1 ((n + sb_dg w) - 1) (sb_b (48 + w % 10))))) = h_2 at hI
          have hX := hX.set (e := .inl ((G.2.1 3), mm, .inl (upd f1 ((n + sb_dg w) - 1) (sb_b (48 + w % 10))))) g_b hr2; rw [eh_2] at hX
          have hF := hF.set (e := .inl ((G.2.1 3), mm, .inl (upd f1 ((n + sb_dg w) - 1) (sb_b (48 + w % 10))))) g_b (show r2 ∈ [r2] from by simp); rw [eh_2] at hF
          have g_t1 : h_2 (G.2.2.2 100) = some (0, 100, .inl (d1, 100, .inl t1)) := (congrFun eh_2 (G.2.2.2 100)).symm.trans (fU_keep g_t1 (f_neR g_t1 g_b (Ne.symm hr2)))
          have g_t2 : h_2 (G.2.2.2 101) = some (0, 101, .inl (d2, 100, .inl t2)) := (congrFun eh_2 (G.2.2.2 101)).symm.trans (fU_keep g_t2 (f_neR g_t2 g_b (Ne.symm hr2)))
          have g_b : h_2 b = some (r2, o, .inl ((G.2.1 3), mm, .inl (upd f1 ((n + sb_dg w) - 1) (sb_b (48 + w % 10))))) := (congrFun eh_2 b).symm.trans (fU_self _ _ _)
          refine lv_iload_n hx hb d_IN_getChars_85 rfl (lv_at hl 1 rfl) ?_
          refine lv_bipush (v := (-9)) hx hb d_IN_getChars_86 (by decide) ?_
          refine lv_icmp_ge (tgt := 104) hx hb d_IN_getChars_88 (by decide) (fun c_3 => ?_) (fun c_3 => absurd ((sb_nle (a := 9) (b := w) (by decide) (by omega)).mpr (by omega)) c_3)
          refine lv_iload hx hb d_IN_getChars_104 (lv_at hl 3 rfl) ?_
          refine lv_if_eq (tgt := 118) hx hb d_IN_getChars_106 (by decide) (fun c_4 => ?_) (fun c_4 => absurd (by decide) c_4)
          refine lv_iload hx hb d_IN_getChars_118 (lv_at hl 0 rfl) ?_
          exact f_iret C hr hI ⟨upd f1 ((n + sb_dg w) - 1) (sb_b (48 + w % 10)), g_b, hP _ (fun j hj => pk_un (by omega)) (fun i hi => by obtain rfl : i = 0 := (by omega); rw [Nat.sub_zero, pk_us, Nat.pow_zero, Nat.div_one]) (fun hf => sb_fitU hf (sb_fitB _)), hF⟩ hX (Nat.le_refl _) (Nat.le_refl _) d_IN_getChars_120
        · have hd : sb_dg w = 2 := by rw [sb_dg, if_neg h9, if_pos h100]
          have e10 : w / 10 % 10 = w / 10 := by omega
          refine lv_iload_n hx hb d_IN_getChars_22 rfl (lv_at hl 0 rfl) ?_
          refine lv_bipush (v := (-100)) hx hb d_IN_getChars_23 (by decide) ?_
          refine lv_icmp_gt (tgt := 72) hx hb d_IN_getChars_25 (by decide) (fun c_5 => ?_) (fun c_5 => absurd ((sb_nlt (a := 100) (b := w) (by decide) (by omega)).mpr h100) c_5)
          refine lv_aload_n hx hb d_IN_getChars_72 rfl (lv_at hl 1 rfl) ?_
          refine lv_iinc (v := nI ((n + sb_dg w) - 1)) (lv' := [(5, .int (nI ((n + sb_dg w) - 1))), (0, .int (-nI w)), (2, .ref b), (6, .int 0)]) hx hb d_IN_getChars_73 hl (k := 2) rfl (f_dec1 (by omega)) (by decide) rfl (fun ls hl => ?_)
          refine lv_iload hx hb d_IN_getChars_76 (lv_at hl 0 rfl) ?_
          refine va_gets (v := .ref (G.2.2.2 100)) hx hb hz1 hI.2.2.2 hown (hT _ w_519) (fun _ q => q) d_IN_getChars_78 ?_
          refine lv_iload_n hx hb d_IN_getChars_81 rfl (lv_at hl 1 rfl) ?_
          refine lv_ineg hx hb d_IN_getChars_82 ?_
          refine f_asi Int32.neg_neg ?_
          refine f_baldn (k := w) (v := (sb_b (48 + w % 10))) hx hb hI g_t1 (gB.fT hG hd1) (by omega) (by omega) (hdt w (by omega)).1 d_IN_getChars_83 ?_
          refine f_bastn (k := ((n + sb_dg w) - 1)) (f' := (upd f1 ((n + sb_dg w) - 1) (sb_b (48 + w % 10)))) hx hb hI g_b hr2 (fT.ofK hK (t0 := 3) rfl) (by omega) (by omega) (congrArg (upd f1 ((n + sb_dg w) - 1)) (sb_bb _)) d_IN_getChars_84 (fun H locs hI => ?_)
          generalize eh_6 : fU h1 b (r2, o, .inl ((G.2.1 3), mm, .inl (upd f1 ((n + sb_dg w) - 1) (sb_b (48 + w % 10))))) = h_6 at hI
          have hX := hX.set (e := .inl ((G.2.1 3), mm, .inl (upd f1 ((n + sb_dg w) - 1) (sb_b (48 + w % 10))))) g_b hr2; rw [eh_6] at hX
          have hF := hF.set (e := .inl ((G.2.1 3), mm, .inl (upd f1 ((n + sb_dg w) - 1) (sb_b (48 + w % 10))))) g_b (show r2 ∈ [r2] from by simp); rw [eh_6] at hF
          have g_t1 : h_6 (G.2.2.2 100) = some (0, 100, .inl (d1, 100, .inl t1)) := (congrFun eh_6 (G.2.2.2 100)).symm.trans (fU_keep g_t1 (f_neR g_t1 g_b (Ne.symm hr2)))
          have g_t2 : h_6 (G.2.2.2 101) = some (0, 101, .inl (d2, 100, .inl t2)) := (congrFun eh_6 (G.2.2.2 101)).symm.trans (fU_keep g_t2 (f_neR g_t2 g_b (Ne.symm hr2)))
          have g_b : h_6 b = some (r2, o, .inl ((G.2.1 3), mm, .inl (upd f1 ((n + sb_dg w) - 1) (sb_b (48 + w % 10))))) := (congrFun eh_6 b).symm.trans (fU_self _ _ _)
          refine lv_iload_n hx hb d_IN_getChars_85 rfl (lv_at hl 1 rfl) ?_
          refine lv_bipush (v := (-9)) hx hb d_IN_getChars_86 (by decide) ?_
          refine lv_icmp_ge (tgt := 104) hx hb d_IN_getChars_88 (by decide) (fun c_7 => absurd c_7 (fun q => absurd ((sb_nle (a := 9) (b := w) (by decide) (by omega)).mp q) (by omega))) (fun c_7 => ?_)
          refine lv_aload_n hx hb d_IN_getChars_91 rfl (lv_at hl 2 rfl) ?_
          refine lv_iinc (v := nI (((n + sb_dg w) - 1) - 1)) (lv' := [(5, .int (nI (((n + sb_dg w) - 1) - 1))), (0, .int (-nI w)), (2, .ref b), (6, .int 0)]) hx hb d_IN_getChars_92 hl (k := 0) rfl (f_dec1 (by omega)) (by decide) rfl (fun ls hl => ?_)
          refine lv_iload hx hb d_IN_getChars_95 (lv_at hl 0 rfl) ?_
          refine va_gets (v := .ref (G.2.2.2 101)) hx hb hz2 hI.2.2.2 hown (hT _ w_521) (fun _ q => q) d_IN_getChars_97 ?_
          refine lv_iload_n hx hb d_IN_getChars_100 rfl (lv_at hl 1 rfl) ?_
          refine lv_ineg hx hb d_IN_getChars_101 ?_
          refine f_asi Int32.neg_neg ?_
          refine f_baldn (k := w) (v := (sb_b (48 + w / 10))) hx hb hI g_t2 (gB.fT hG hd2) (by omega) (by omega) (hdt w (by omega)).2 d_IN_getChars_102 ?_
          refine f_bastn (k := (((n + sb_dg w) - 1) - 1)) (f' := (upd (upd f1 ((n + sb_dg w) - 1) (sb_b (48 + w % 10))) (((n + sb_dg w) - 1) - 1) (sb_b (48 + w / 10)))) hx hb hI g_b hr2 (fT.ofK hK (t0 := 3) rfl) (by omega) (by omega) (congrArg (upd (upd f1 ((n + sb_dg w) - 1) (sb_b (48 + w % 10))) (((n + sb_dg w) - 1) - 1)) (sb_bb _)) d_IN_getChars_103 (fun H locs hI => ?_)
          generalize eh_8 : fU h_6 b (r2, o, .inl ((G.2.1 3), mm, .inl (upd (upd f1 ((n + sb_dg w) - 1) (sb_b (48 + w % 10))) (((n + sb_dg w) - 1) - 1) (sb_b (48 + w / 10))))) = h_8 at hI
          have hX := hX.set (e := .inl ((G.2.1 3), mm, .inl (upd (upd f1 ((n + sb_dg w) - 1) (sb_b (48 + w % 10))) (((n + sb_dg w) - 1) - 1) (sb_b (48 + w / 10))))) g_b hr2; rw [eh_8] at hX
          have hF := hF.set (e := .inl ((G.2.1 3), mm, .inl (upd (upd f1 ((n + sb_dg w) - 1) (sb_b (48 + w % 10))) (((n + sb_dg w) - 1) - 1) (sb_b (48 + w / 10))))) g_b (show r2 ∈ [r2] from by simp); rw [eh_8] at hF
          have g_t1 : h_8 (G.2.2.2 100) = some (0, 100, .inl (d1, 100, .inl t1)) := (congrFun eh_8 (G.2.2.2 100)).symm.trans (fU_keep g_t1 (f_neR g_t1 g_b (Ne.symm hr2)))
          have g_t2 : h_8 (G.2.2.2 101) = some (0, 101, .inl (d2, 100, .inl t2)) := (congrFun eh_8 (G.2.2.2 101)).symm.trans (fU_keep g_t2 (f_neR g_t2 g_b (Ne.symm hr2)))
          have g_b : h_8 b = some (r2, o, .inl ((G.2.1 3), mm, .inl (upd (upd f1 ((n + sb_dg w) - 1) (sb_b (48 + w % 10))) (((n + sb_dg w) - 1) - 1) (sb_b (48 + w / 10))))) := (congrFun eh_8 b).symm.trans (fU_self _ _ _)
          refine lv_iload hx hb d_IN_getChars_104 (lv_at hl 3 rfl) ?_
          refine lv_if_eq (tgt := 118) hx hb d_IN_getChars_106 (by decide) (fun c_9 => ?_) (fun c_9 => absurd (by decide) c_9)
          refine lv_iload hx hb d_IN_getChars_118 (lv_at hl 0 rfl) ?_
          exact f_iret C hr hI ⟨upd (upd f1 ((n + sb_dg w) - 1) (sb_b (48 + w % 10))) (((n + sb_dg w) - 1) - 1) (sb_b (48 + w / 10)), g_b, hP _ (fun j hj => by rw [pk_un (by omega), pk_un (by omega)]) (fun i hi => by match i, hi with | 0, _ => rw [Nat.sub_zero, pk_un (by omega), pk_us, Nat.pow_zero, Nat.div_one] | 1, _ => rw [pk_us, Nat.pow_one, e10] | k + 2, hi => omega) (fun hf => sb_fitU (sb_fitU hf (sb_fitB _)) (sb_fitB _)), hF⟩ hX (Nat.le_refl _) (Nat.le_refl _) d_IN_getChars_120
      · have hd := sb_dg100 (w := w) (by omega) hw
        have hd2w := (sb_dg_in (w / 100)).1
        refine lv_iload_n hx hb d_IN_getChars_22 rfl (lv_at hl 0 rfl) ?_
        refine lv_bipush (v := (-100)) hx hb d_IN_getChars_23 (by decide) ?_
        refine lv_icmp_gt (tgt := 72) hx hb d_IN_getChars_25 (by decide) (fun c_10 => absurd c_10 (fun q => h100 ((sb_nlt (a := 100) (b := w) (by decide) (by omega)).mp q))) (fun c_10 => ?_)
        refine lv_iload_n hx hb d_IN_getChars_28 rfl (lv_at hl 0 rfl) ?_
        refine lv_bipush (v := 100) hx hb d_IN_getChars_29 (by decide) ?_
        refine lv_idiv hx hb d_IN_getChars_31 (by decide) ?_
        refine f_asi (sb_ndiv hw) ?_
        refine lv_istore_n (lv' := [(3, .int (-nI (w / 100))), (0, .int (-nI w)), (2, .ref b), (5, .int (nI (n + sb_dg w))), (6, .int 0)]) hx hb d_IN_getChars_32 rfl hl (by decide) rfl (fun ls hl => ?_)
        refine lv_iload_n hx hb d_IN_getChars_33 rfl (lv_at hl 0 rfl) ?_
        refine lv_bipush (v := 100) hx hb d_IN_getChars_34 (by decide) ?_
        refine lv_imul hx hb d_IN_getChars_36 ?_
        refine lv_iload_n hx hb d_IN_getChars_37 rfl (lv_at hl 1 rfl) ?_
        refine lv_isub hx hb d_IN_getChars_38 ?_
        refine f_asi (sb_nrem hw) ?_
        refine lv_istore (lv' := [(4, .int (nI (w % 100))), (3, .int (-nI (w / 100))), (0, .int (-nI w)), (2, .ref b), (5, .int (nI (n + sb_dg w))), (6, .int 0)]) hx hb d_IN_getChars_39 hl (by decide) rfl (fun ls hl => ?_)
        refine lv_iload_n hx hb d_IN_getChars_41 rfl (lv_at hl 1 rfl) ?_
        refine lv_istore_n (lv' := [(0, .int (-nI (w / 100))), (4, .int (nI (w % 100))), (3, .int (-nI (w / 100))), (2, .ref b), (5, .int (nI (n + sb_dg w))), (6, .int 0)]) hx hb d_IN_getChars_42 rfl hl (by decide) rfl (fun ls hl => ?_)
        refine lv_aload_n hx hb d_IN_getChars_43 rfl (lv_at hl 3 rfl) ?_
        refine lv_iinc (v := nI ((n + sb_dg w) - 1)) (lv' := [(5, .int (nI ((n + sb_dg w) - 1))), (0, .int (-nI (w / 100))), (4, .int (nI (w % 100))), (3, .int (-nI (w / 100))), (2, .ref b), (6, .int 0)]) hx hb d_IN_getChars_44 hl (k := 4) rfl (f_dec1 (by omega)) (by decide) rfl (fun ls hl => ?_)
        refine lv_iload hx hb d_IN_getChars_47 (lv_at hl 0 rfl) ?_
        refine va_gets (v := .ref (G.2.2.2 100)) hx hb hz1 hI.2.2.2 hown (hT _ w_519) (fun _ q => q) d_IN_getChars_49 ?_
        refine lv_iload hx hb d_IN_getChars_52 (lv_at hl 2 rfl) ?_
        refine f_baldn (k := (w % 100)) (v := (sb_b (48 + (w % 100) % 10))) hx hb hI g_t1 (gB.fT hG hd1) (by omega) (by omega) (hdt (w % 100) (by omega)).1 d_IN_getChars_54 ?_
        refine f_asi (show sb_b (48 + w % 100 % 10) = sb_b (48 + w % 10) by rw [show w % 100 % 10 = w % 10 by omega]) ?_
        refine f_bastn (k := ((n + sb_dg w) - 1)) (f' := (upd f1 ((n + sb_dg w) - 1) (sb_b (48 + w % 10)))) hx hb hI g_b hr2 (fT.ofK hK (t0 := 3) rfl) (by omega) (by omega) (congrArg (upd f1 ((n + sb_dg w) - 1)) (sb_bb _)) d_IN_getChars_55 (fun H locs hI => ?_)
        generalize eh_11 : fU h1 b (r2, o, .inl ((G.2.1 3), mm, .inl (upd f1 ((n + sb_dg w) - 1) (sb_b (48 + w % 10))))) = h_11 at hI
        have hX := hX.set (e := .inl ((G.2.1 3), mm, .inl (upd f1 ((n + sb_dg w) - 1) (sb_b (48 + w % 10))))) g_b hr2; rw [eh_11] at hX
        have hF := hF.set (e := .inl ((G.2.1 3), mm, .inl (upd f1 ((n + sb_dg w) - 1) (sb_b (48 + w % 10))))) g_b (show r2 ∈ [r2] from by simp); rw [eh_11] at hF
        have g_t1 : h_11 (G.2.2.2 100) = some (0, 100, .inl (d1, 100, .inl t1)) := (congrFun eh_11 (G.2.2.2 100)).symm.trans (fU_keep g_t1 (f_neR g_t1 g_b (Ne.symm hr2)))
        have g_t2 : h_11 (G.2.2.2 101) = some (0, 101, .inl (d2, 100, .inl t2)) := (congrFun eh_11 (G.2.2.2 101)).symm.trans (fU_keep g_t2 (f_neR g_t2 g_b (Ne.symm hr2)))
        have g_b : h_11 b = some (r2, o, .inl ((G.2.1 3), mm, .inl (upd f1 ((n + sb_dg w) - 1) (sb_b (48 + w % 10))))) := (congrFun eh_11 b).symm.trans (fU_self _ _ _)
        refine lv_aload_n hx hb d_IN_getChars_56 rfl (lv_at hl 4 rfl) ?_
        refine lv_iinc (v := nI (((n + sb_dg w) - 1) - 1)) (lv' := [(5, .int (nI (((n + sb_dg w) - 1) - 1))), (0, .int (-nI (w / 100))), (4, .int (nI (w % 100))), (3, .int (-nI (w / 100))), (2, .ref b), (6, .int 0)]) hx hb d_IN_getChars_57 hl (k := 0) rfl (f_dec1 (by omega)) (by decide) rfl (fun ls hl => ?_)
        refine lv_iload hx hb d_IN_getChars_60 (lv_at hl 0 rfl) ?_
        refine va_gets (v := .ref (G.2.2.2 101)) hx hb hz2 hI.2.2.2 hown (hT _ w_521) (fun _ q => q) d_IN_getChars_62 ?_
        refine lv_iload hx hb d_IN_getChars_65 (lv_at hl 2 rfl) ?_
        refine f_baldn (k := (w % 100)) (v := (sb_b (48 + (w % 100) / 10))) hx hb hI g_t2 (gB.fT hG hd2) (by omega) (by omega) (hdt (w % 100) (by omega)).2 d_IN_getChars_67 ?_
        refine f_asi (show sb_b (48 + w % 100 / 10) = sb_b (48 + w / 10 % 10) by rw [show w % 100 / 10 = w / 10 % 10 by omega]) ?_
        refine f_bastn (k := (((n + sb_dg w) - 1) - 1)) (f' := (upd (upd f1 ((n + sb_dg w) - 1) (sb_b (48 + w % 10))) (((n + sb_dg w) - 1) - 1) (sb_b (48 + w / 10 % 10)))) hx hb hI g_b hr2 (fT.ofK hK (t0 := 3) rfl) (by omega) (by omega) (congrArg (upd (upd f1 ((n + sb_dg w) - 1) (sb_b (48 + w % 10))) (((n + sb_dg w) - 1) - 1)) (sb_bb _)) d_IN_getChars_68 (fun H locs hI => ?_)
        generalize eh_12 : fU h_11 b (r2, o, .inl ((G.2.1 3), mm, .inl (upd (upd f1 ((n + sb_dg w) - 1) (sb_b (48 + w % 10))) (((n + sb_dg w) - 1) - 1) (sb_b (48 + w / 10 % 10))))) = h_12 at hI
        have hX := hX.set (e := .inl ((G.2.1 3), mm, .inl (upd (upd f1 ((n + sb_dg w) - 1) (sb_b (48 + w % 10))) (((n + sb_dg w) - 1) - 1) (sb_b (48 + w / 10 % 10))))) g_b hr2; rw [eh_12] at hX
        have hF := hF.set (e := .inl ((G.2.1 3), mm, .inl (upd (upd f1 ((n + sb_dg w) - 1) (sb_b (48 + w % 10))) (((n + sb_dg w) - 1) - 1) (sb_b (48 + w / 10 % 10))))) g_b (show r2 ∈ [r2] from by simp); rw [eh_12] at hF
        have g_t1 : h_12 (G.2.2.2 100) = some (0, 100, .inl (d1, 100, .inl t1)) := (congrFun eh_12 (G.2.2.2 100)).symm.trans (fU_keep g_t1 (f_neR g_t1 g_b (Ne.symm hr2)))
        have g_t2 : h_12 (G.2.2.2 101) = some (0, 101, .inl (d2, 100, .inl t2)) := (congrFun eh_12 (G.2.2.2 101)).symm.trans (fU_keep g_t2 (f_neR g_t2 g_b (Ne.symm hr2)))
        have g_b : h_12 b = some (r2, o, .inl ((G.2.1 3), mm, .inl (upd (upd f1 ((n + sb_dg w) - 1) (sb_b (48 + w % 10))) (((n + sb_dg w) - 1) - 1) (sb_b (48 + w / 10 % 10))))) := (congrFun eh_12 b).symm.trans (fU_self _ _ _)
        refine lv_goto (tgt := 22) hx hb d_IN_getChars_69 (by decide) ?_
        have e5 : n + sb_dg w - 1 - 1 = n + sb_dg (w / 100) := by omega
        refine ih (w / 100) (by omega) (by omega) (by omega) (upd (upd f1 ((n + sb_dg w) - 1) (sb_b (48 + w % 10))) (((n + sb_dg w) - 1) - 1) (sb_b (48 + w / 10 % 10))) (fun f' q1 q2 q3 => ?_) _ _ _ g_b g_t1 g_t2 hF hX hI ls ?_
        · refine hP f' (fun j hj => by rw [q1 j (by omega), pk_un (by omega), pk_un (by omega)]) (fun i hi => ?_) (fun hf => q3 (sb_fitU (sb_fitU hf (sb_fitB _)) (sb_fitB _)))
          match i, hi with
          | 0, _ => rw [Nat.sub_zero, q1 _ (by omega), pk_un (by omega), pk_us, Nat.pow_zero, Nat.div_one]
          | 1, _ => rw [q1 _ (by omega), pk_us, Nat.pow_one]
          | k + 2, hi => rw [show n + sb_dg w - 1 - (k + 2) = n + sb_dg (w / 100) - 1 - k by omega, q2 k (by omega), Nat.div_div_eq_div_mul, show 100 * 10 ^ k = 10 ^ (k + 2) by rw [show k + 2 = k + 1 + 1 from rfl, Nat.pow_succ, Nat.pow_succ]; omega]
        rw [e5] at hl
        have hl : lv_has ls 7 [(5, .int (nI (n + sb_dg (w / 100)))), (0, .int (-nI (w / 100))), (4, .int (nI (w % 100))), (3, .int (-nI (w / 100))), (2, .ref b), (6, .int 0)] := hl
        exact lv_sub hl [1, 4, 0, 5] rfl
  refine lv_iload_n hx hb d_IN_getChars_0 rfl (lv_at hl 1 rfl) ?_
  refine lv_istore (lv' := [(5, .int (nI pp)), (0, .int (nI v)), (1, .int (nI pp)), (2, .ref b)]) hx hb d_IN_getChars_1 hl (by decide) rfl (fun ls hl => ?_)
  refine lv_iload_n hx hb d_IN_getChars_3 rfl (lv_at hl 1 rfl) ?_
  refine lv_if_ge (tgt := 11) hx hb d_IN_getChars_4 (by decide) (fun c_13 => ?_) (fun c_13 => absurd (nI_pos' (by omega)) c_13)
  refine lv_iconst (v := 0) hx hb d_IN_getChars_11 (by decide) ?_
  refine lv_istore (lv' := [(6, .int 0), (5, .int (nI pp)), (0, .int (nI v)), (1, .int (nI pp)), (2, .ref b)]) hx hb d_IN_getChars_12 hl (by decide) rfl (fun ls hl => ?_)
  refine lv_iload hx hb d_IN_getChars_14 (lv_at hl 0 rfl) ?_
  refine lv_if_ne (tgt := 22) hx hb d_IN_getChars_16 (by decide) (fun c_14 => absurd (by decide) c_14) (fun c_14 => ?_)
  refine lv_iload_n hx hb d_IN_getChars_19 rfl (lv_at hl 2 rfl) ?_
  refine lv_ineg hx hb d_IN_getChars_20 ?_
  refine lv_istore_n (lv' := [(0, .int (-(nI v))), (6, .int 0), (5, .int (nI pp)), (1, .int (nI pp)), (2, .ref b)]) hx hb d_IN_getChars_21 rfl hl (by decide) rfl (fun ls hl => ?_)
  refine J22 (v + 1) v (by omega) (by omega) (by omega) f (fun f' q1 q2 q3 => ⟨fun j hj => q1 j (Or.inl hj), fun i hi => ?_, q3⟩) _ _ _ g_b g_t1 g_t2 hF hX hI ls ?_
  · have h9 := q2 (sb_dg v - 1 - i) (by omega)
    rw [show n + sb_dg v - 1 - (sb_dg v - 1 - i) = n + i by omega] at h9
    exact h9
  rw [hp] at hl
  have hl : lv_has ls 7 [(0, .int (-(nI v))), (6, .int 0), (5, .int (nI (n + sb_dg v))), (1, .int (nI (n + sb_dg v))), (2, .ref b)] := hl
  exact lv_sub hl [0, 4, 2, 1] rfl
theorem gm_AB_append2 : gM y_AB_append2 b_AB_append2 4 (some (.object "java/lang/AbstractStringBuilder")) 1 := ⟨w_512, w_2, ⟨by decide, by decide⟩, by decide +kernel⟩
set_option maxHeartbeats 4000000 in
set_option maxRecDepth 100000 in
/-- AB_append2  -/
theorem c_AB_append2 (l : Launch) (G : gG) (h : fH) (sz : Nat) (a r r2 o mm n v : Nat) (tx : Nat → Nat) (hr0 : r ≠ 0) (hr2 : r2 ≠ 0) (hrr : r ≠ r2) (hB : bS G h r r2 o a mm n tx) (bv : v < 1000000000) (bm : mm ≤ 29000) (hD : dT G h) : cM l y_AB_append2 b_AB_append2 4 (some (.object "java/lang/AbstractStringBuilder")) { frames := 4, cells := gc mm (n + sb_dg v), slots := gs mm (n + sb_dg v), locals := 91 } G [.ref a, .int (nI v)] h sz (cQq G h sz (fun x h' => x = some a ∧ bS G h' r r2 o a (gw mm (n + sb_dg v)) (n + sb_dg v) (sb_cat tx n (sb_dec v)) ∧ fF (inR [r, r2]) h h')) := by
  refine f_start (by decide) (Nat.le_of_ble_eq_true rfl) ?_
  intro p e s m below meth c ls C hr hsz hI hl
  obtain ⟨hx, hb, hml, hown, hnm, hlk, hT, hG, hZ⟩ := id C
  have hK := hG.1
  have hX : fX h sz h := fX.rf
  have hl : lv_has ls 4 [(0, .ref a), (1, .int (nI v))] := hl
  obtain ⟨b, ml, f, g_a, g_b, hL, hf, bn, b16, bm0⟩ := id hB
  have hF : fF (inR [r, r2]) h h := fF.rf
  obtain ⟨-, -, hv1, hv9⟩ := dg_pow bv
  have hgb := gw_b (mm := mm) (q := n + sb_dg v) (by omega)
  refine lv_aload_n hx hb d_AB_append2_0 rfl (lv_at hl 0 rfl) ?_
  refine f_get (C := "java/lang/StringBuilder") (T := T_SB) (N := 4) hx hb (fun w q => hT w (s_SB w q)) hown hK hI g_a rfl 3 (by decide) (hT _ w_52) (fun _ q => q) rfl d_AB_append2_1 ?_
  refine lv_istore_n (lv' := [(2, .int (nI n)), (0, .ref a), (1, .int (nI v))]) hx hb d_AB_append2_4 rfl hl (by decide) rfl (fun ls hl => ?_)
  refine lv_iload_n hx hb d_AB_append2_5 rfl (lv_at hl 0 rfl) ?_
  refine lv_iload_n hx hb d_AB_append2_6 rfl (lv_at hl 2 rfl) ?_
  refine f_calli hI (f_runS C hI (c_IN_stringSize l G h _ v bv) gm_IN_stringSize w_514 w_513 rfl hl.1 rfl (Nat.le_of_ble_eq_true rfl) ⟨Nat.le_of_ble_eq_true rfl, Nat.le_of_ble_eq_true rfl⟩ d_AB_append2_7 ⟨by (try dsimp only); omega, by (try dsimp only); omega⟩) (fun r_1 h8 H9 locs hp9 hX9 hz9 hI => ?_)
  obtain ⟨rfl, e9⟩ := hp9
  rw [e9] at hI
  clear hX9 e9
  refine lv_iadd hx hb d_AB_append2_10 ?_
  refine f_asi (nI_add n (sb_dg v)) ?_
  refine lv_istore_n (lv' := [(3, .int (nI (n + (sb_dg v)))), (2, .int (nI n)), (0, .ref a), (1, .int (nI v))]) hx hb d_AB_append2_11 rfl hl (by decide) rfl (fun ls hl => ?_)
  refine lv_aload_n hx hb d_AB_append2_12 rfl (lv_at hl 2 rfl) ?_
  refine lv_iload_n hx hb d_AB_append2_13 rfl (lv_at hl 0 rfl) ?_
  have hzA := hI.2.2.2.1
  refine f_callv hI (f_runU (C := "java/lang/StringBuilder") C hI (c_AB_ensureCapacityInternal l G h _ a b r r2 o mm (n + sb_dg v) ml (nI n) f hr0 hr2 hrr g_a g_b hf (by omega) (by omega)) gm_AB_ensureCapacityInternal w_214 w_215 ⟨by decide, by decide⟩ rfl w_214 p_AB_ensureCapacityInternal w_1098 w_212 g_a rfl rfl rfl hl.1 rfl (Nat.le_of_ble_eq_true rfl) ⟨Nat.le_of_ble_eq_true rfl, Nat.le_of_ble_eq_true rfl⟩ d_AB_append2_14 ⟨by (try dsimp only); omega, by (try dsimp only); omega⟩) (fun h9 H9 locs hp9 hX9 hz9 hI => ?_)
  obtain ⟨b2, f2, g_a, g_b2, hf2, hk2, hF9⟩ := hp9
  have hX := fX.tr (Nat.le_trans (Nat.le_of_eq hsz.symm) hzA) hX hX9
  have hF := hF.tr (hF9.mono (fun r9 _ q => (by simp [inR] at q ⊢; (try omega) : inR [r, r2] r9 _)))
  refine lv_aload_n hx hb d_AB_append2_17 rfl (lv_at hl 2 rfl) ?_
  have hzA := hI.2.2.2.1
  refine f_calli hI (f_runU (C := "java/lang/StringBuilder") C hI (c_AB_isLatin1 l G h9 _ a b2 r o ml (nI n) g_a) gm_AB_isLatin1 w_248 w_251 ⟨by decide, by decide⟩ rfl w_248 w_250 w_249 w_247 g_a rfl rfl rfl hl.1 rfl (Nat.le_of_ble_eq_true rfl) ⟨Nat.le_of_ble_eq_true rfl, Nat.le_of_ble_eq_true rfl⟩ d_AB_append2_18 ⟨by (try dsimp only); omega, by (try dsimp only); omega⟩) (fun r_3 h8 H9 locs hp9 hX9 hz9 hI => ?_)
  obtain ⟨rfl, e9⟩ := hp9
  rw [e9] at hI
  clear hX9 e9
  refine lv_if_eq (tgt := 37) hx hb d_AB_append2_21 (by decide) (fun c_4 => absurd c_4 (by decide)) (fun c_4 => ?_)
  refine lv_iload_n hx hb d_AB_append2_24 rfl (lv_at hl 3 rfl) ?_
  refine lv_iload_n hx hb d_AB_append2_25 rfl (lv_at hl 0 rfl) ?_
  refine lv_aload_n hx hb d_AB_append2_26 rfl (lv_at hl 2 rfl) ?_
  refine f_get (C := "java/lang/StringBuilder") (T := T_SB) (N := 4) hx hb (fun w q => hT w (s_SB w q)) hown hK hI g_a rfl 0 (by decide) (hT _ w_48) (fun _ q => q) rfl d_AB_append2_27 ?_
  have hzA := hI.2.2.2.1
  refine f_calli hI (f_runS C hI (c_IN_getChars l G h9 _ b2 r2 o (gw mm (n + sb_dg v)) v (n + sb_dg v) n f2 hr2 g_b2 rfl (by omega) (by omega) bv (hD.keepX hX)) gm_IN_getChars w_517 w_516 rfl hl.1 rfl (Nat.le_of_ble_eq_true rfl) ⟨Nat.le_of_ble_eq_true rfl, Nat.le_of_ble_eq_true rfl⟩ d_AB_append2_30 ⟨by (try dsimp only); omega, by (try dsimp only); omega⟩) (fun r_5 h9 H9 locs hp9 hX9 hz9 hI => ?_)
  obtain ⟨f3, g_b2, ⟨hp1, hp2, hp3⟩, hF9⟩ := hp9
  have hX := fX.tr (Nat.le_trans (Nat.le_of_eq hsz.symm) hzA) hX hX9
  have g_a := hF9 _ _ _ _ g_a (by simp [inR, hrr])
  have hF := hF.tr (hF9.mono (fun r9 _ q => (by simp [inR] at q ⊢; (try omega) : inR [r, r2] r9 _)))
  refine lv_pop hx hb d_AB_append2_33 rfl ?_
  refine lv_goto (tgt := 48) hx hb d_AB_append2_34 (by decide) ?_
  refine lv_aload_n hx hb d_AB_append2_48 rfl (lv_at hl 2 rfl) ?_
  refine lv_iload_n hx hb d_AB_append2_49 rfl (lv_at hl 0 rfl) ?_
  refine f_put (C := "java/lang/StringBuilder") (T := T_SB) (N := 4) (fs' := [.ref b2, .int 0, .int ml, .int (nI (n + (sb_dg v)))]) (v := .int (nI (n + (sb_dg v)))) hx hb (fun w q => hT w (s_SB w q)) t_SB k_SB n_SB hown hK hI g_a hr0 rfl 3 (by decide) (hT _ w_52) (fun _ q => q) rfl rfl rfl (Nat.le_of_ble_eq_true rfl) rfl d_AB_append2_50 (fun H locs hI => ?_)
  generalize eh_6 : fU h9 a (r, o, .inr (9, [.ref b2, .int 0, .int ml, .int (nI (n + (sb_dg v)))])) = h_6 at hI
  have hX := hX.set (e := .inr (9, [.ref b2, .int 0, .int ml, .int (nI (n + (sb_dg v)))])) g_a hr0; rw [eh_6] at hX
  have hF := hF.set (e := .inr (9, [.ref b2, .int 0, .int ml, .int (nI (n + (sb_dg v)))])) g_a (show r ∈ [r, r2] from by simp); rw [eh_6] at hF
  have g_b2 : h_6 b2 = some (r2, o, .inl ((G.2.1 3), (gw mm (n + sb_dg v)), .inl f3)) := (congrFun eh_6 b2).symm.trans (fU_keep g_b2 (f_neR g_b2 g_a (Ne.symm hrr)))
  have g_a : h_6 a = some (r, o, .inr (9, [.ref b2, .int 0, .int ml, .int (nI (n + (sb_dg v)))])) := (congrFun eh_6 a).symm.trans (fU_self _ _ _)
  refine lv_aload_n hx hb d_AB_append2_53 rfl (lv_at hl 2 rfl) ?_
  exact f_aret (v := some a) C hr (Or.inl ⟨_, rfl⟩) hI ⟨rfl, ⟨b2, ml, f3, g_a, g_b2, sb_latPut hL (fun j hj => by rw [hp1 j hj]; exact hk2 j (by omega)) (fun i hi => ⟨by unfold sb_dec; omega, hp2 i hi⟩), hp3 hf2, by omega, by omega, by omega⟩, hF⟩ hX (by (try dsimp only); omega) (by (try dsimp only); omega) d_AB_append2_54
theorem gm_SB_append2 : gM y_SB_append2 b_SB_append2 2 (some (.object "java/lang/StringBuilder")) 1 := ⟨w_509, w_3, ⟨by decide, by decide⟩, by decide +kernel⟩
set_option maxHeartbeats 4000000 in
set_option maxRecDepth 100000 in
/-- SB_append2  -/
theorem c_SB_append2 (l : Launch) (G : gG) (h : fH) (sz : Nat) (a r r2 o mm n v : Nat) (tx : Nat → Nat) (hr0 : r ≠ 0) (hr2 : r2 ≠ 0) (hrr : r ≠ r2) (hB : bS G h r r2 o a mm n tx) (bv : v < 1000000000) (bm : mm ≤ 29000) (hD : dT G h) : cM l y_SB_append2 b_SB_append2 2 (some (.object "java/lang/StringBuilder")) { frames := 5, cells := gc mm (n + sb_dg v), slots := gs mm (n + sb_dg v), locals := 114 } G [.ref a, .int (nI v)] h sz (cQq G h sz (fun x h' => x = some a ∧ bS G h' r r2 o a (gw mm (n + sb_dg v)) (n + sb_dg v) (sb_cat tx n (sb_dec v)) ∧ fF (inR [r, r2]) h h')) := by
  refine f_start (by decide) (Nat.le_of_ble_eq_true rfl) ?_
  intro p e s m below meth c ls C hr hsz hI hl
  obtain ⟨hx, hb, hml, hown, hnm, hlk, hT, hG, hZ⟩ := id C
  have hK := hG.1
  have hX : fX h sz h := fX.rf
  have hl : lv_has ls 2 [(0, .ref a), (1, .int (nI v))] := hl
  obtain ⟨b, ml, f, g_a, g_b, hL, hf, bn, b16, bm0⟩ := id hB
  refine lv_aload_n hx hb d_SB_append2_0 rfl (lv_at hl 0 rfl) ?_
  refine lv_iload_n hx hb d_SB_append2_1 rfl (lv_at hl 1 rfl) ?_
  have hzA := hI.2.2.2.1
  refine f_callq hI (f_runSU C hI (c_AB_append2 l G h _ a r r2 o mm n v tx hr0 hr2 hrr hB bv bm hD) gm_AB_append2 w_511 w_1103 w_61 (by decide) w_510 g_a rfl rfl hl.1 rfl (Nat.le_of_ble_eq_true rfl) ⟨Nat.le_of_ble_eq_true rfl, Nat.le_of_ble_eq_true rfl⟩ d_SB_append2_2 ⟨by (try dsimp only); omega, by (try dsimp only); omega⟩) (fun r_1 h9 H9 locs hp9 hX9 hz9 hI => ?_)
  obtain ⟨rfl, hB9, hF9⟩ := hp9
  have hX := fX.tr (Nat.le_trans (Nat.le_of_eq hsz.symm) hzA) hX hX9
  refine lv_pop hx hb d_SB_append2_5 rfl ?_
  refine lv_aload_n hx hb d_SB_append2_6 rfl (lv_at hl 0 rfl) ?_
  exact f_aret (v := some a) C hr (Or.inl ⟨_, rfl⟩) hI ⟨rfl, hB9, hF9⟩ hX (by (try dsimp only); omega) (by (try dsimp only); omega) d_SB_append2_7
