theorem gm_RE_isSettled : gM y_RE_isSettled b_RE_isSettled 2 (some .boolean) 1 := ⟨w_759, w_21, ⟨by decide, by decide⟩, by decide +kernel⟩
set_option maxHeartbeats 4000000 in
set_option maxRecDepth 100000 in
/-- RE_isSettled  -/
theorem c_RE_isSettled (l : Launch) (G : gG) (h : fH) (sz : Nat) (Z ow mn : Nat) (bo : Option Nat) (th du : Nat → Nat) (ch : Nat → Int64) (hZ1 : cRt G h Z ow mn bo th du ch) (bth : ∀ i, th i ≤ 2) (bdu : ∀ i, du i ≤ 1000000000) (lo : Nat) (blo : lo < 30) : cM l y_RE_isSettled b_RE_isSettled 2 (some .boolean) { frames := 1, cells := 0, slots := 0, locals := 20 } G [.ref Z, .int (nI lo)] h sz (cQi G h sz (fun z h' => z = (if th (mn * 30 + lo) = 1 then 1 else 0) ∧ h' = h)) := by
  refine f_start (by decide) (Nat.le_of_ble_eq_true rfl) ?_
  intro p e s m below meth c ls C hr hsz hI hl
  obtain ⟨hx, hb, hml, hown, hnm, hlk, hT, hG, hZ⟩ := id C
  have hK := hG.1
  have hX : fX h sz h := fX.rf
  have hl : lv_has ls 2 [(0, .ref Z), (1, .int (nI lo))] := hl
  obtain ⟨b1, b2, b3, ce, g_Z, g_b1, g_b2, g_b3, hce⟩ := id hZ1
  have b9 := bth (mn * 30 + lo)
  rcases (show th (mn * 30 + lo) = 0 ∨ th (mn * 30 + lo) = 1 ∨ th (mn * 30 + lo) = 2 by omega) with h0 | h0 | h0
  · skip
    refine lv_iload_n hx hb d_RE_isSettled_0 rfl (lv_at hl 1 rfl) ?_
    refine f_calli hI (f_runSN C hI (c_DR_isLot l G h _ (nI lo)) gm_DR_isLot w_559 w_755 rfl hl.1 rfl (Nat.le_of_ble_eq_true rfl) ⟨Nat.le_of_ble_eq_true rfl, Nat.le_of_ble_eq_true rfl⟩ d_RE_isSettled_1 ⟨Nat.le_of_ble_eq_true rfl, Nat.le_of_ble_eq_true rfl⟩) (fun r_1 h8 H9 locs hp9 hX9 hz9 hI => ?_)
    obtain ⟨rfl, e9⟩ := hp9
    rw [e9] at hI
    clear hX9 e9
    refine f_asi (lot_1 (lot := lo) (by omega)) ?_
    refine lv_if_eq (tgt := 33) hx hb d_RE_isSettled_4 (by decide) (fun c_2 => absurd c_2 (by decide)) (fun c_2 => ?_)
    refine lv_aload_n hx hb d_RE_isSettled_7 rfl (lv_at hl 0 rfl) ?_
    refine f_get (C := "DutyRules$Return") (T := T_RE) (N := 5) hx hb (fun w q => hT w (s_RE w q)) hown hK hI g_Z rfl 2 (by decide) (hT _ w_726) (fun _ q => q) rfl d_RE_isSettled_8 ?_
    refine lv_iload_n hx hb d_RE_isSettled_11 rfl (lv_at hl 1 rfl) ?_
    refine f_zaldn (k := lo) (v := 0) hx hb hI g_b1 (fT.ofK hK (t0 := 2) rfl) (by omega) (by omega) (hz_0 h0) d_RE_isSettled_12 ?_
    refine lv_if_eq (tgt := 33) hx hb d_RE_isSettled_13 (by decide) (fun c_3 => ?_) (fun c_3 => absurd (by decide) c_3)
    refine lv_iconst (v := 0) hx hb d_RE_isSettled_33 (by decide) ?_
    exact f_zret C hr rfl hI ⟨(if_neg (by rw [h0]; decide)).symm, rfl⟩ hX (Nat.le_refl _) (Nat.le_refl _) d_RE_isSettled_34
  · skip
    refine lv_iload_n hx hb d_RE_isSettled_0 rfl (lv_at hl 1 rfl) ?_
    refine f_calli hI (f_runSN C hI (c_DR_isLot l G h _ (nI lo)) gm_DR_isLot w_559 w_755 rfl hl.1 rfl (Nat.le_of_ble_eq_true rfl) ⟨Nat.le_of_ble_eq_true rfl, Nat.le_of_ble_eq_true rfl⟩ d_RE_isSettled_1 ⟨Nat.le_of_ble_eq_true rfl, Nat.le_of_ble_eq_true rfl⟩) (fun r_4 h8 H9 locs hp9 hX9 hz9 hI => ?_)
    obtain ⟨rfl, e9⟩ := hp9
    rw [e9] at hI
    clear hX9 e9
    refine f_asi (lot_1 (lot := lo) (by omega)) ?_
    refine lv_if_eq (tgt := 33) hx hb d_RE_isSettled_4 (by decide) (fun c_5 => absurd c_5 (by decide)) (fun c_5 => ?_)
    refine lv_aload_n hx hb d_RE_isSettled_7 rfl (lv_at hl 0 rfl) ?_
    refine f_get (C := "DutyRules$Return") (T := T_RE) (N := 5) hx hb (fun w q => hT w (s_RE w q)) hown hK hI g_Z rfl 2 (by decide) (hT _ w_726) (fun _ q => q) rfl d_RE_isSettled_8 ?_
    refine lv_iload_n hx hb d_RE_isSettled_11 rfl (lv_at hl 1 rfl) ?_
    refine f_zaldn (k := lo) (v := 1) hx hb hI g_b1 (fT.ofK hK (t0 := 2) rfl) (by omega) (by omega) (hz_1 blo (by rw [h0]; decide)) d_RE_isSettled_12 ?_
    refine lv_if_eq (tgt := 33) hx hb d_RE_isSettled_13 (by decide) (fun c_6 => absurd c_6 (by decide)) (fun c_6 => ?_)
    refine lv_aload_n hx hb d_RE_isSettled_16 rfl (lv_at hl 0 rfl) ?_
    refine f_get (C := "DutyRules$Return") (T := T_RE) (N := 5) hx hb (fun w q => hT w (s_RE w q)) hown hK hI g_Z rfl 3 (by decide) (hT _ w_727) (fun _ q => q) rfl d_RE_isSettled_17 ?_
    refine lv_iload_n hx hb d_RE_isSettled_20 rfl (lv_at hl 1 rfl) ?_
    refine f_laldn (k := lo) (v := (lN (du (mn * 30 + lo)))) hx hb hI g_b2 (fT.ofK hK (t0 := 1) rfl) (by omega) (by omega) ((hce lo blo (by rw [h0]; decide)).trans (if_pos h0)) d_RE_isSettled_21 ?_
    refine lv_ldc2 (v := (-9223372036854775808)) hx hb hown (hT _ w_760) d_RE_isSettled_22 ?_
    refine f_lc_eq (tgt := 33) hx hb d_RE_isSettled_25 d_RE_isSettled_26 (by decide) (fun c_7 => absurd c_7 (lN_ne (bdu _))) (fun c_7 => ?_)
    refine lv_iconst (v := 1) hx hb d_RE_isSettled_29 (by decide) ?_
    refine lv_goto (tgt := 34) hx hb d_RE_isSettled_30 (by decide) ?_
    exact f_zret C hr rfl hI ⟨(if_pos h0).symm, rfl⟩ hX (Nat.le_refl _) (Nat.le_refl _) d_RE_isSettled_34
  · skip
    refine lv_iload_n hx hb d_RE_isSettled_0 rfl (lv_at hl 1 rfl) ?_
    refine f_calli hI (f_runSN C hI (c_DR_isLot l G h _ (nI lo)) gm_DR_isLot w_559 w_755 rfl hl.1 rfl (Nat.le_of_ble_eq_true rfl) ⟨Nat.le_of_ble_eq_true rfl, Nat.le_of_ble_eq_true rfl⟩ d_RE_isSettled_1 ⟨Nat.le_of_ble_eq_true rfl, Nat.le_of_ble_eq_true rfl⟩) (fun r_8 h8 H9 locs hp9 hX9 hz9 hI => ?_)
    obtain ⟨rfl, e9⟩ := hp9
    rw [e9] at hI
    clear hX9 e9
    refine f_asi (lot_1 (lot := lo) (by omega)) ?_
    refine lv_if_eq (tgt := 33) hx hb d_RE_isSettled_4 (by decide) (fun c_9 => absurd c_9 (by decide)) (fun c_9 => ?_)
    refine lv_aload_n hx hb d_RE_isSettled_7 rfl (lv_at hl 0 rfl) ?_
    refine f_get (C := "DutyRules$Return") (T := T_RE) (N := 5) hx hb (fun w q => hT w (s_RE w q)) hown hK hI g_Z rfl 2 (by decide) (hT _ w_726) (fun _ q => q) rfl d_RE_isSettled_8 ?_
    refine lv_iload_n hx hb d_RE_isSettled_11 rfl (lv_at hl 1 rfl) ?_
    refine f_zaldn (k := lo) (v := 1) hx hb hI g_b1 (fT.ofK hK (t0 := 2) rfl) (by omega) (by omega) (hz_1 blo (by rw [h0]; decide)) d_RE_isSettled_12 ?_
    refine lv_if_eq (tgt := 33) hx hb d_RE_isSettled_13 (by decide) (fun c_10 => absurd c_10 (by decide)) (fun c_10 => ?_)
    refine lv_aload_n hx hb d_RE_isSettled_16 rfl (lv_at hl 0 rfl) ?_
    refine f_get (C := "DutyRules$Return") (T := T_RE) (N := 5) hx hb (fun w q => hT w (s_RE w q)) hown hK hI g_Z rfl 3 (by decide) (hT _ w_727) (fun _ q => q) rfl d_RE_isSettled_17 ?_
    refine lv_iload_n hx hb d_RE_isSettled_20 rfl (lv_at hl 1 rfl) ?_
    refine f_laldn (k := lo) (v := (-9223372036854775808)) hx hb hI g_b2 (fT.ofK hK (t0 := 1) rfl) (by omega) (by omega) ((hce lo blo (by rw [h0]; decide)).trans (if_neg (by rw [h0]; decide))) d_RE_isSettled_21 ?_
    refine lv_ldc2 (v := (-9223372036854775808)) hx hb hown (hT _ w_760) d_RE_isSettled_22 ?_
    refine f_lc_eq (tgt := 33) hx hb d_RE_isSettled_25 d_RE_isSettled_26 (by decide) (fun c_11 => ?_) (fun c_11 => absurd rfl c_11)
    refine lv_iconst (v := 0) hx hb d_RE_isSettled_33 (by decide) ?_
    exact f_zret C hr rfl hI ⟨(if_neg (by rw [h0]; decide)).symm, rfl⟩ hX (Nat.le_refl _) (Nat.le_refl _) d_RE_isSettled_34
theorem gm_RE_put : gM y_RE_put b_RE_put 5 none 2 := ⟨w_754, w_21, ⟨by decide, by decide⟩, by decide +kernel⟩
set_option maxHeartbeats 4000000 in
set_option maxRecDepth 100000 in
/-- RE_put  -/
theorem c_RE_put_ok (l : Launch) (G : gG) (h : fH) (sz : Nat) (Z ow mn : Nat) (bo : Option Nat) (th du : Nat → Nat) (ch : Nat → Int64) (hZ1 : cRt G h Z ow mn bo th du ch) (bth : ∀ i, th i ≤ 2) (bdu : ∀ i, du i ≤ 1000000000) (lo c1 : Nat) (blo : lo < 30) (bc1 : c1 ≤ 1000000000) : cM l y_RE_put b_RE_put 5 none { frames := 2, cells := 0, slots := 0, locals := 41 } G [.ref Z, .int (nI lo), .long (lN c1)] h sz (cQv G h sz (fun h' => cRt G h' Z ow mn bo (va_up (va_up th (mn * 30 + lo) 0) (mn * 30 + lo) 1) (va_up du (mn * 30 + lo) c1) (vp_updL ch lo (if th (mn * 30 + lo) = 1 then lN c1 - lN (du (mn * 30 + lo)) else 0)) ∧ fF (inT ow) h h')) := by
  refine f_start (by decide) (Nat.le_of_ble_eq_true rfl) ?_
  intro p e s m below meth c ls C hr hsz hI hl
  obtain ⟨hx, hb, hml, hown, hnm, hlk, hT, hG, hZ⟩ := id C
  have hK := hG.1
  have hX : fX h sz h := fX.rf
  have hl : lv_has ls 5 [(0, .ref Z), (1, .int (nI lo)), (2, .long (lN c1))] := hl
  obtain ⟨b1, b2, b3, ce, g_Z, g_b1, g_b2, g_b3, hce⟩ := id hZ1
  have hF : fF (inT ow) h h := fF.rf
  refine lv_iload_n hx hb d_RE_put_0 rfl (lv_at hl 1 rfl) ?_
  refine f_calli hI (f_runSN C hI (c_DR_isLot l G h _ (nI lo)) gm_DR_isLot w_559 w_755 rfl hl.1 rfl (Nat.le_of_ble_eq_true rfl) ⟨Nat.le_of_ble_eq_true rfl, Nat.le_of_ble_eq_true rfl⟩ d_RE_put_1 ⟨Nat.le_of_ble_eq_true rfl, Nat.le_of_ble_eq_true rfl⟩) (fun r_1 h8 H9 locs hp9 hX9 hz9 hI => ?_)
  obtain ⟨rfl, e9⟩ := hp9
  rw [e9] at hI
  clear hX9 e9
  refine f_asi (lot_1 (lot := lo) (by omega)) ?_
  refine lv_if_ne (tgt := 8) hx hb d_RE_put_4 (by decide) (fun c_2 => ?_) (fun c_2 => absurd c_2 (by decide))
  refine lv_aload_n hx hb d_RE_put_8 rfl (lv_at hl 0 rfl) ?_
  refine lv_iload_n hx hb d_RE_put_9 rfl (lv_at hl 1 rfl) ?_
  refine f_calli hI (f_runV C hI (c_RE_isSettled l G h _ Z ow mn bo th du ch hZ1 bth bdu lo (by omega)) gm_RE_isSettled w_757 w_758 w_756 g_Z rfl rfl rfl hl.1 rfl (Nat.le_of_ble_eq_true rfl) ⟨Nat.le_of_ble_eq_true rfl, Nat.le_of_ble_eq_true rfl⟩ d_RE_put_10 ⟨Nat.le_of_ble_eq_true rfl, Nat.le_of_ble_eq_true rfl⟩) (fun r_3 h8 H9 locs hp9 hX9 hz9 hI => ?_)
  obtain ⟨rfl, e9⟩ := hp9
  rw [e9] at hI
  clear hX9 e9
  by_cases hs1 : th (mn * 30 + lo) = 1
  · refine f_asi (if_pos hs1) ?_
    refine lv_if_eq (tgt := 28) hx hb d_RE_put_13 (by decide) (fun c_4 => absurd c_4 (by decide)) (fun c_4 => ?_)
    refine lv_lload_n hx hb d_RE_put_16 rfl (lv_at hl 2 rfl) ?_
    refine lv_ldc2 (v := (-9223372036854775808)) hx hb hown (hT _ w_760) d_RE_put_17 ?_
    refine f_lc_eq (tgt := 28) hx hb d_RE_put_20 d_RE_put_21 (by decide) (fun c_5 => absurd c_5 (lN_ne bc1)) (fun c_5 => ?_)
    refine lv_iconst (v := 1) hx hb d_RE_put_24 (by decide) ?_
    refine lv_goto (tgt := 29) hx hb d_RE_put_25 (by decide) ?_
    refine lv_istore (lv' := [(4, .int 1), (0, .ref Z), (1, .int (nI lo)), (2, .long (lN c1))]) hx hb d_RE_put_29 hl (by decide) rfl (fun ls hl => ?_)
    refine lv_aload_n hx hb d_RE_put_31 rfl (lv_at hl 1 rfl) ?_
    refine f_get (C := "DutyRules$Return") (T := T_RE) (N := 5) hx hb (fun w q => hT w (s_RE w q)) hown hK hI g_Z rfl 4 (by decide) (hT _ w_729) (fun _ q => q) rfl d_RE_put_32 ?_
    refine lv_iload_n hx hb d_RE_put_35 rfl (lv_at hl 2 rfl) ?_
    refine lv_iload hx hb d_RE_put_36 (lv_at hl 0 rfl) ?_
    refine lv_if_eq (tgt := 52) hx hb d_RE_put_38 (by decide) (fun c_6 => absurd c_6 (by decide)) (fun c_6 => ?_)
    refine lv_lload_n hx hb d_RE_put_41 rfl (lv_at hl 3 rfl) ?_
    refine lv_aload_n hx hb d_RE_put_42 rfl (lv_at hl 1 rfl) ?_
    refine f_get (C := "DutyRules$Return") (T := T_RE) (N := 5) hx hb (fun w q => hT w (s_RE w q)) hown hK hI g_Z rfl 3 (by decide) (hT _ w_727) (fun _ q => q) rfl d_RE_put_43 ?_
    refine lv_iload_n hx hb d_RE_put_46 rfl (lv_at hl 2 rfl) ?_
    refine f_laldn (k := lo) (v := (lN (du (mn * 30 + lo)))) hx hb hI g_b2 (fT.ofK hK (t0 := 1) rfl) (by omega) (by omega) ((hce lo blo (by rw [hs1]; decide)).trans (if_pos hs1)) d_RE_put_47 ?_
    refine lv_lsub hx hb d_RE_put_48 ?_
    refine lv_goto (tgt := 53) hx hb d_RE_put_49 (by decide) ?_
    refine f_lastn (k := lo) (f' := (vp_updL ch lo ((lN c1) - (lN (du (mn * 30 + lo)))))) hx hb hI g_b3 (by decide) (fT.ofK hK (t0 := 1) rfl) (by omega) (by omega) rfl d_RE_put_53 (fun H locs hI => ?_)
    generalize eh_7 : fU h b3 (21, ow, .inl ((G.2.1 1), 30, .inr (.inl (vp_updL ch lo ((lN c1) - (lN (du (mn * 30 + lo)))))))) = h_7 at hI
    have hX := hX.set (e := .inl ((G.2.1 1), 30, .inr (.inl (vp_updL ch lo ((lN c1) - (lN (du (mn * 30 + lo)))))))) g_b3 (by decide); rw [eh_7] at hX
    have hF := hF.set (e := .inl ((G.2.1 1), 30, .inr (.inl (vp_updL ch lo ((lN c1) - (lN (du (mn * 30 + lo)))))))) g_b3 ⟨by decide, by decide, rfl⟩; rw [eh_7] at hF
    have g_Z : h_7 Z = some (18, ow, .inr (5, [.int (nI mn), va_rf bo, .ref b1, .ref b2, .ref b3])) := (congrFun eh_7 Z).symm.trans (fU_keep g_Z (f_neR g_Z g_b3 (by decide)))
    have g_b1 : h_7 b1 = some (19, ow, .inl ((G.2.1 2), 30, .inl (fun i => nI (hz th mn i)))) := (congrFun eh_7 b1).symm.trans (fU_keep g_b1 (f_neR g_b1 g_b3 (by decide)))
    have g_b2 : h_7 b2 = some (20, ow, .inl ((G.2.1 1), 30, .inr (.inl ce))) := (congrFun eh_7 b2).symm.trans (fU_keep g_b2 (f_neR g_b2 g_b3 (by decide)))
    have g_b3 : h_7 b3 = some (21, ow, .inl ((G.2.1 1), 30, .inr (.inl (vp_updL ch lo ((lN c1) - (lN (du (mn * 30 + lo)))))))) := (congrFun eh_7 b3).symm.trans (fU_self _ _ _)
    refine lv_aload_n hx hb d_RE_put_54 rfl (lv_at hl 1 rfl) ?_
    refine f_get (C := "DutyRules$Return") (T := T_RE) (N := 5) hx hb (fun w q => hT w (s_RE w q)) hown hK hI g_Z rfl 3 (by decide) (hT _ w_727) (fun _ q => q) rfl d_RE_put_55 ?_
    refine lv_iload_n hx hb d_RE_put_58 rfl (lv_at hl 2 rfl) ?_
    refine lv_lload_n hx hb d_RE_put_59 rfl (lv_at hl 3 rfl) ?_
    refine f_lastn (k := lo) (f' := (vp_updL ce lo (lN c1))) hx hb hI g_b2 (by decide) (fT.ofK hK (t0 := 1) rfl) (by omega) (by omega) rfl d_RE_put_60 (fun H locs hI => ?_)
    generalize eh_8 : fU h_7 b2 (20, ow, .inl ((G.2.1 1), 30, .inr (.inl (vp_updL ce lo (lN c1))))) = h_8 at hI
    have hX := hX.set (e := .inl ((G.2.1 1), 30, .inr (.inl (vp_updL ce lo (lN c1))))) g_b2 (by decide); rw [eh_8] at hX
    have hF := hF.set (e := .inl ((G.2.1 1), 30, .inr (.inl (vp_updL ce lo (lN c1))))) g_b2 ⟨by decide, by decide, rfl⟩; rw [eh_8] at hF
    have g_Z : h_8 Z = some (18, ow, .inr (5, [.int (nI mn), va_rf bo, .ref b1, .ref b2, .ref b3])) := (congrFun eh_8 Z).symm.trans (fU_keep g_Z (f_neR g_Z g_b2 (by decide)))
    have g_b1 : h_8 b1 = some (19, ow, .inl ((G.2.1 2), 30, .inl (fun i => nI (hz th mn i)))) := (congrFun eh_8 b1).symm.trans (fU_keep g_b1 (f_neR g_b1 g_b2 (by decide)))
    have g_b3 : h_8 b3 = some (21, ow, .inl ((G.2.1 1), 30, .inr (.inl (vp_updL ch lo ((lN c1) - (lN (du (mn * 30 + lo)))))))) := (congrFun eh_8 b3).symm.trans (fU_keep g_b3 (f_neR g_b3 g_b2 (by decide)))
    have g_b2 : h_8 b2 = some (20, ow, .inl ((G.2.1 1), 30, .inr (.inl (vp_updL ce lo (lN c1))))) := (congrFun eh_8 b2).symm.trans (fU_self _ _ _)
    refine lv_aload_n hx hb d_RE_put_61 rfl (lv_at hl 1 rfl) ?_
    refine f_get (C := "DutyRules$Return") (T := T_RE) (N := 5) hx hb (fun w q => hT w (s_RE w q)) hown hK hI g_Z rfl 2 (by decide) (hT _ w_726) (fun _ q => q) rfl d_RE_put_62 ?_
    refine lv_iload_n hx hb d_RE_put_65 rfl (lv_at hl 2 rfl) ?_
    refine lv_iconst (v := 1) hx hb d_RE_put_66 (by decide) ?_
    refine f_zastn (k := lo) (f' := (fun i => nI (hz (va_up (va_up th (mn * 30 + lo) 0) (mn * 30 + lo) 1) mn i))) hx hb hI g_b1 (by decide) (fT.ofK hK (t0 := 2) rfl) (by omega) (by omega) (hz_up blo (by decide)) d_RE_put_67 (fun H locs hI => ?_)
    generalize eh_9 : fU h_8 b1 (19, ow, .inl ((G.2.1 2), 30, .inl (fun i => nI (hz (va_up (va_up th (mn * 30 + lo) 0) (mn * 30 + lo) 1) mn i)))) = h_9 at hI
    have hX := hX.set (e := .inl ((G.2.1 2), 30, .inl (fun i => nI (hz (va_up (va_up th (mn * 30 + lo) 0) (mn * 30 + lo) 1) mn i)))) g_b1 (by decide); rw [eh_9] at hX
    have hF := hF.set (e := .inl ((G.2.1 2), 30, .inl (fun i => nI (hz (va_up (va_up th (mn * 30 + lo) 0) (mn * 30 + lo) 1) mn i)))) g_b1 ⟨by decide, by decide, rfl⟩; rw [eh_9] at hF
    have g_Z : h_9 Z = some (18, ow, .inr (5, [.int (nI mn), va_rf bo, .ref b1, .ref b2, .ref b3])) := (congrFun eh_9 Z).symm.trans (fU_keep g_Z (f_neR g_Z g_b1 (by decide)))
    have g_b2 : h_9 b2 = some (20, ow, .inl ((G.2.1 1), 30, .inr (.inl (vp_updL ce lo (lN c1))))) := (congrFun eh_9 b2).symm.trans (fU_keep g_b2 (f_neR g_b2 g_b1 (by decide)))
    have g_b3 : h_9 b3 = some (21, ow, .inl ((G.2.1 1), 30, .inr (.inl (vp_updL ch lo ((lN c1) - (lN (du (mn * 30 + lo)))))))) := (congrFun eh_9 b3).symm.trans (fU_keep g_b3 (f_neR g_b3 g_b1 (by decide)))
    have g_b1 : h_9 b1 = some (19, ow, .inl ((G.2.1 2), 30, .inl (fun i => nI (hz (va_up (va_up th (mn * 30 + lo) 0) (mn * 30 + lo) 1) mn i)))) := (congrFun eh_9 b1).symm.trans (fU_self _ _ _)
    exact f_vret C hr hI ⟨cRt_put (c1 := c1) g_Z g_b1 g_b2 (by rw [if_pos hs1]; exact g_b3) hce rfl, hF⟩ hX (Nat.le_refl _) (Nat.le_refl _) d_RE_put_68
  · refine f_asi (if_neg hs1) ?_
    refine lv_if_eq (tgt := 28) hx hb d_RE_put_13 (by decide) (fun c_10 => ?_) (fun c_10 => absurd (by decide) c_10)
    refine lv_iconst (v := 0) hx hb d_RE_put_28 (by decide) ?_
    refine lv_istore (lv' := [(4, .int 0), (0, .ref Z), (1, .int (nI lo)), (2, .long (lN c1))]) hx hb d_RE_put_29 hl (by decide) rfl (fun ls hl => ?_)
    refine lv_aload_n hx hb d_RE_put_31 rfl (lv_at hl 1 rfl) ?_
    refine f_get (C := "DutyRules$Return") (T := T_RE) (N := 5) hx hb (fun w q => hT w (s_RE w q)) hown hK hI g_Z rfl 4 (by decide) (hT _ w_729) (fun _ q => q) rfl d_RE_put_32 ?_
    refine lv_iload_n hx hb d_RE_put_35 rfl (lv_at hl 2 rfl) ?_
    refine lv_iload hx hb d_RE_put_36 (lv_at hl 0 rfl) ?_
    refine lv_if_eq (tgt := 52) hx hb d_RE_put_38 (by decide) (fun c_11 => ?_) (fun c_11 => absurd (by decide) c_11)
    refine lv_lconst (v := 0) hx hb d_RE_put_52 (by decide) ?_
    refine f_lastn (k := lo) (f' := (vp_updL ch lo 0)) hx hb hI g_b3 (by decide) (fT.ofK hK (t0 := 1) rfl) (by omega) (by omega) rfl d_RE_put_53 (fun H locs hI => ?_)
    generalize eh_12 : fU h b3 (21, ow, .inl ((G.2.1 1), 30, .inr (.inl (vp_updL ch lo 0)))) = h_12 at hI
    have hX := hX.set (e := .inl ((G.2.1 1), 30, .inr (.inl (vp_updL ch lo 0)))) g_b3 (by decide); rw [eh_12] at hX
    have hF := hF.set (e := .inl ((G.2.1 1), 30, .inr (.inl (vp_updL ch lo 0)))) g_b3 ⟨by decide, by decide, rfl⟩; rw [eh_12] at hF
    have g_Z : h_12 Z = some (18, ow, .inr (5, [.int (nI mn), va_rf bo, .ref b1, .ref b2, .ref b3])) := (congrFun eh_12 Z).symm.trans (fU_keep g_Z (f_neR g_Z g_b3 (by decide)))
    have g_b1 : h_12 b1 = some (19, ow, .inl ((G.2.1 2), 30, .inl (fun i => nI (hz th mn i)))) := (congrFun eh_12 b1).symm.trans (fU_keep g_b1 (f_neR g_b1 g_b3 (by decide)))
    have g_b2 : h_12 b2 = some (20, ow, .inl ((G.2.1 1), 30, .inr (.inl ce))) := (congrFun eh_12 b2).symm.trans (fU_keep g_b2 (f_neR g_b2 g_b3 (by decide)))
    have g_b3 : h_12 b3 = some (21, ow, .inl ((G.2.1 1), 30, .inr (.inl (vp_updL ch lo 0)))) := (congrFun eh_12 b3).symm.trans (fU_self _ _ _)
    refine lv_aload_n hx hb d_RE_put_54 rfl (lv_at hl 1 rfl) ?_
    refine f_get (C := "DutyRules$Return") (T := T_RE) (N := 5) hx hb (fun w q => hT w (s_RE w q)) hown hK hI g_Z rfl 3 (by decide) (hT _ w_727) (fun _ q => q) rfl d_RE_put_55 ?_
    refine lv_iload_n hx hb d_RE_put_58 rfl (lv_at hl 2 rfl) ?_
    refine lv_lload_n hx hb d_RE_put_59 rfl (lv_at hl 3 rfl) ?_
    refine f_lastn (k := lo) (f' := (vp_updL ce lo (lN c1))) hx hb hI g_b2 (by decide) (fT.ofK hK (t0 := 1) rfl) (by omega) (by omega) rfl d_RE_put_60 (fun H locs hI => ?_)
    generalize eh_13 : fU h_12 b2 (20, ow, .inl ((G.2.1 1), 30, .inr (.inl (vp_updL ce lo (lN c1))))) = h_13 at hI
    have hX := hX.set (e := .inl ((G.2.1 1), 30, .inr (.inl (vp_updL ce lo (lN c1))))) g_b2 (by decide); rw [eh_13] at hX
    have hF := hF.set (e := .inl ((G.2.1 1), 30, .inr (.inl (vp_updL ce lo (lN c1))))) g_b2 ⟨by decide, by decide, rfl⟩; rw [eh_13] at hF
    have g_Z : h_13 Z = some (18, ow, .inr (5, [.int (nI mn), va_rf bo, .ref b1, .ref b2, .ref b3])) := (congrFun eh_13 Z).symm.trans (fU_keep g_Z (f_neR g_Z g_b2 (by decide)))
    have g_b1 : h_13 b1 = some (19, ow, .inl ((G.2.1 2), 30, .inl (fun i => nI (hz th mn i)))) := (congrFun eh_13 b1).symm.trans (fU_keep g_b1 (f_neR g_b1 g_b2 (by decide)))
    have g_b3 : h_13 b3 = some (21, ow, .inl ((G.2.1 1), 30, .inr (.inl (vp_updL ch lo 0)))) := (congrFun eh_13 b3).symm.trans (fU_keep g_b3 (f_neR g_b3 g_b2 (by decide)))
    have g_b2 : h_13 b2 = some (20, ow, .inl ((G.2.1 1), 30, .inr (.inl (vp_updL ce lo (lN c1))))) := (congrFun eh_13 b2).symm.trans (fU_self _ _ _)
    refine lv_aload_n hx hb d_RE_put_61 rfl (lv_at hl 1 rfl) ?_
    refine f_get (C := "DutyRules$Return") (T := T_RE) (N := 5) hx hb (fun w q => hT w (s_RE w q)) hown hK hI g_Z rfl 2 (by decide) (hT _ w_726) (fun _ q => q) rfl d_RE_put_62 ?_
    refine lv_iload_n hx hb d_RE_put_65 rfl (lv_at hl 2 rfl) ?_
    refine lv_iconst (v := 1) hx hb d_RE_put_66 (by decide) ?_
    refine f_zastn (k := lo) (f' := (fun i => nI (hz (va_up (va_up th (mn * 30 + lo) 0) (mn * 30 + lo) 1) mn i))) hx hb hI g_b1 (by decide) (fT.ofK hK (t0 := 2) rfl) (by omega) (by omega) (hz_up blo (by decide)) d_RE_put_67 (fun H locs hI => ?_)
    generalize eh_14 : fU h_13 b1 (19, ow, .inl ((G.2.1 2), 30, .inl (fun i => nI (hz (va_up (va_up th (mn * 30 + lo) 0) (mn * 30 + lo) 1) mn i)))) = h_14 at hI
    have hX := hX.set (e := .inl ((G.2.1 2), 30, .inl (fun i => nI (hz (va_up (va_up th (mn * 30 + lo) 0) (mn * 30 + lo) 1) mn i)))) g_b1 (by decide); rw [eh_14] at hX
    have hF := hF.set (e := .inl ((G.2.1 2), 30, .inl (fun i => nI (hz (va_up (va_up th (mn * 30 + lo) 0) (mn * 30 + lo) 1) mn i)))) g_b1 ⟨by decide, by decide, rfl⟩; rw [eh_14] at hF
    have g_Z : h_14 Z = some (18, ow, .inr (5, [.int (nI mn), va_rf bo, .ref b1, .ref b2, .ref b3])) := (congrFun eh_14 Z).symm.trans (fU_keep g_Z (f_neR g_Z g_b1 (by decide)))
    have g_b2 : h_14 b2 = some (20, ow, .inl ((G.2.1 1), 30, .inr (.inl (vp_updL ce lo (lN c1))))) := (congrFun eh_14 b2).symm.trans (fU_keep g_b2 (f_neR g_b2 g_b1 (by decide)))
    have g_b3 : h_14 b3 = some (21, ow, .inl ((G.2.1 1), 30, .inr (.inl (vp_updL ch lo 0)))) := (congrFun eh_14 b3).symm.trans (fU_keep g_b3 (f_neR g_b3 g_b1 (by decide)))
    have g_b1 : h_14 b1 = some (19, ow, .inl ((G.2.1 2), 30, .inl (fun i => nI (hz (va_up (va_up th (mn * 30 + lo) 0) (mn * 30 + lo) 1) mn i)))) := (congrFun eh_14 b1).symm.trans (fU_self _ _ _)
    exact f_vret C hr hI ⟨cRt_put (c1 := c1) g_Z g_b1 g_b2 (by rw [if_neg hs1]; exact g_b3) hce rfl, hF⟩ hX (Nat.le_refl _) (Nat.le_refl _) d_RE_put_68
set_option maxHeartbeats 4000000 in
set_option maxRecDepth 100000 in
/-- RE_put  -/
theorem c_RE_put_no (l : Launch) (G : gG) (h : fH) (sz : Nat) (Z ow mn : Nat) (bo : Option Nat) (th du : Nat → Nat) (ch : Nat → Int64) (hZ1 : cRt G h Z ow mn bo th du ch) (bth : ∀ i, th i ≤ 2) (bdu : ∀ i, du i ≤ 1000000000) (lo c1 : Nat) (blo : lo < 30) (bc1 : c1 ≤ 1000000000) : cM l y_RE_put b_RE_put 5 none { frames := 2, cells := 0, slots := 0, locals := 41 } G [.ref Z, .int (nI lo), .long (-9223372036854775808)] h sz (cQv G h sz (fun h' => cRt G h' Z ow mn bo (va_up (va_up th (mn * 30 + lo) 0) (mn * 30 + lo) 2) (va_up du (mn * 30 + lo) c1) (vp_updL ch lo 0) ∧ fF (inT ow) h h')) := by
  refine f_start (by decide) (Nat.le_of_ble_eq_true rfl) ?_
  intro p e s m below meth c ls C hr hsz hI hl
  obtain ⟨hx, hb, hml, hown, hnm, hlk, hT, hG, hZ⟩ := id C
  have hK := hG.1
  have hX : fX h sz h := fX.rf
  have hl : lv_has ls 5 [(0, .ref Z), (1, .int (nI lo)), (2, .long (-9223372036854775808))] := hl
  obtain ⟨b1, b2, b3, ce, g_Z, g_b1, g_b2, g_b3, hce⟩ := id hZ1
  have hF : fF (inT ow) h h := fF.rf
  refine lv_iload_n hx hb d_RE_put_0 rfl (lv_at hl 1 rfl) ?_
  refine f_calli hI (f_runSN C hI (c_DR_isLot l G h _ (nI lo)) gm_DR_isLot w_559 w_755 rfl hl.1 rfl (Nat.le_of_ble_eq_true rfl) ⟨Nat.le_of_ble_eq_true rfl, Nat.le_of_ble_eq_true rfl⟩ d_RE_put_1 ⟨Nat.le_of_ble_eq_true rfl, Nat.le_of_ble_eq_true rfl⟩) (fun r_1 h8 H9 locs hp9 hX9 hz9 hI => ?_)
  obtain ⟨rfl, e9⟩ := hp9
  rw [e9] at hI
  clear hX9 e9
  refine f_asi (lot_1 (lot := lo) (by omega)) ?_
  refine lv_if_ne (tgt := 8) hx hb d_RE_put_4 (by decide) (fun c_2 => ?_) (fun c_2 => absurd c_2 (by decide))
  refine lv_aload_n hx hb d_RE_put_8 rfl (lv_at hl 0 rfl) ?_
  refine lv_iload_n hx hb d_RE_put_9 rfl (lv_at hl 1 rfl) ?_
  refine f_calli hI (f_runV C hI (c_RE_isSettled l G h _ Z ow mn bo th du ch hZ1 bth bdu lo (by omega)) gm_RE_isSettled w_757 w_758 w_756 g_Z rfl rfl rfl hl.1 rfl (Nat.le_of_ble_eq_true rfl) ⟨Nat.le_of_ble_eq_true rfl, Nat.le_of_ble_eq_true rfl⟩ d_RE_put_10 ⟨Nat.le_of_ble_eq_true rfl, Nat.le_of_ble_eq_true rfl⟩) (fun r_3 h8 H9 locs hp9 hX9 hz9 hI => ?_)
  obtain ⟨rfl, e9⟩ := hp9
  rw [e9] at hI
  clear hX9 e9
  by_cases hs1 : th (mn * 30 + lo) = 1
  · refine f_asi (if_pos hs1) ?_
    refine lv_if_eq (tgt := 28) hx hb d_RE_put_13 (by decide) (fun c_4 => absurd c_4 (by decide)) (fun c_4 => ?_)
    refine lv_lload_n hx hb d_RE_put_16 rfl (lv_at hl 2 rfl) ?_
    refine lv_ldc2 (v := (-9223372036854775808)) hx hb hown (hT _ w_760) d_RE_put_17 ?_
    refine f_lc_eq (tgt := 28) hx hb d_RE_put_20 d_RE_put_21 (by decide) (fun c_5 => ?_) (fun c_5 => absurd rfl c_5)
    refine lv_iconst (v := 0) hx hb d_RE_put_28 (by decide) ?_
    refine lv_istore (lv' := [(4, .int 0), (0, .ref Z), (1, .int (nI lo)), (2, .long (-9223372036854775808))]) hx hb d_RE_put_29 hl (by decide) rfl (fun ls hl => ?_)
    refine lv_aload_n hx hb d_RE_put_31 rfl (lv_at hl 1 rfl) ?_
    refine f_get (C := "DutyRules$Return") (T := T_RE) (N := 5) hx hb (fun w q => hT w (s_RE w q)) hown hK hI g_Z rfl 4 (by decide) (hT _ w_729) (fun _ q => q) rfl d_RE_put_32 ?_
    refine lv_iload_n hx hb d_RE_put_35 rfl (lv_at hl 2 rfl) ?_
    refine lv_iload hx hb d_RE_put_36 (lv_at hl 0 rfl) ?_
    refine lv_if_eq (tgt := 52) hx hb d_RE_put_38 (by decide) (fun c_6 => ?_) (fun c_6 => absurd (by decide) c_6)
    refine lv_lconst (v := 0) hx hb d_RE_put_52 (by decide) ?_
    refine f_lastn (k := lo) (f' := (vp_updL ch lo 0)) hx hb hI g_b3 (by decide) (fT.ofK hK (t0 := 1) rfl) (by omega) (by omega) rfl d_RE_put_53 (fun H locs hI => ?_)
    generalize eh_7 : fU h b3 (21, ow, .inl ((G.2.1 1), 30, .inr (.inl (vp_updL ch lo 0)))) = h_7 at hI
    have hX := hX.set (e := .inl ((G.2.1 1), 30, .inr (.inl (vp_updL ch lo 0)))) g_b3 (by decide); rw [eh_7] at hX
    have hF := hF.set (e := .inl ((G.2.1 1), 30, .inr (.inl (vp_updL ch lo 0)))) g_b3 ⟨by decide, by decide, rfl⟩; rw [eh_7] at hF
    have g_Z : h_7 Z = some (18, ow, .inr (5, [.int (nI mn), va_rf bo, .ref b1, .ref b2, .ref b3])) := (congrFun eh_7 Z).symm.trans (fU_keep g_Z (f_neR g_Z g_b3 (by decide)))
    have g_b1 : h_7 b1 = some (19, ow, .inl ((G.2.1 2), 30, .inl (fun i => nI (hz th mn i)))) := (congrFun eh_7 b1).symm.trans (fU_keep g_b1 (f_neR g_b1 g_b3 (by decide)))
    have g_b2 : h_7 b2 = some (20, ow, .inl ((G.2.1 1), 30, .inr (.inl ce))) := (congrFun eh_7 b2).symm.trans (fU_keep g_b2 (f_neR g_b2 g_b3 (by decide)))
    have g_b3 : h_7 b3 = some (21, ow, .inl ((G.2.1 1), 30, .inr (.inl (vp_updL ch lo 0)))) := (congrFun eh_7 b3).symm.trans (fU_self _ _ _)
    refine lv_aload_n hx hb d_RE_put_54 rfl (lv_at hl 1 rfl) ?_
    refine f_get (C := "DutyRules$Return") (T := T_RE) (N := 5) hx hb (fun w q => hT w (s_RE w q)) hown hK hI g_Z rfl 3 (by decide) (hT _ w_727) (fun _ q => q) rfl d_RE_put_55 ?_
    refine lv_iload_n hx hb d_RE_put_58 rfl (lv_at hl 2 rfl) ?_
    refine lv_lload_n hx hb d_RE_put_59 rfl (lv_at hl 3 rfl) ?_
    refine f_lastn (k := lo) (f' := (vp_updL ce lo (-9223372036854775808))) hx hb hI g_b2 (by decide) (fT.ofK hK (t0 := 1) rfl) (by omega) (by omega) rfl d_RE_put_60 (fun H locs hI => ?_)
    generalize eh_8 : fU h_7 b2 (20, ow, .inl ((G.2.1 1), 30, .inr (.inl (vp_updL ce lo (-9223372036854775808))))) = h_8 at hI
    have hX := hX.set (e := .inl ((G.2.1 1), 30, .inr (.inl (vp_updL ce lo (-9223372036854775808))))) g_b2 (by decide); rw [eh_8] at hX
    have hF := hF.set (e := .inl ((G.2.1 1), 30, .inr (.inl (vp_updL ce lo (-9223372036854775808))))) g_b2 ⟨by decide, by decide, rfl⟩; rw [eh_8] at hF
    have g_Z : h_8 Z = some (18, ow, .inr (5, [.int (nI mn), va_rf bo, .ref b1, .ref b2, .ref b3])) := (congrFun eh_8 Z).symm.trans (fU_keep g_Z (f_neR g_Z g_b2 (by decide)))
    have g_b1 : h_8 b1 = some (19, ow, .inl ((G.2.1 2), 30, .inl (fun i => nI (hz th mn i)))) := (congrFun eh_8 b1).symm.trans (fU_keep g_b1 (f_neR g_b1 g_b2 (by decide)))
    have g_b3 : h_8 b3 = some (21, ow, .inl ((G.2.1 1), 30, .inr (.inl (vp_updL ch lo 0)))) := (congrFun eh_8 b3).symm.trans (fU_keep g_b3 (f_neR g_b3 g_b2 (by decide)))
    have g_b2 : h_8 b2 = some (20, ow, .inl ((G.2.1 1), 30, .inr (.inl (vp_updL ce lo (-9223372036854775808))))) := (congrFun eh_8 b2).symm.trans (fU_self _ _ _)
    refine lv_aload_n hx hb d_RE_put_61 rfl (lv_at hl 1 rfl) ?_
    refine f_get (C := "DutyRules$Return") (T := T_RE) (N := 5) hx hb (fun w q => hT w (s_RE w q)) hown hK hI g_Z rfl 2 (by decide) (hT _ w_726) (fun _ q => q) rfl d_RE_put_62 ?_
    refine lv_iload_n hx hb d_RE_put_65 rfl (lv_at hl 2 rfl) ?_
    refine lv_iconst (v := 1) hx hb d_RE_put_66 (by decide) ?_
    refine f_zastn (k := lo) (f' := (fun i => nI (hz (va_up (va_up th (mn * 30 + lo) 0) (mn * 30 + lo) 2) mn i))) hx hb hI g_b1 (by decide) (fT.ofK hK (t0 := 2) rfl) (by omega) (by omega) (hz_up blo (by decide)) d_RE_put_67 (fun H locs hI => ?_)
    generalize eh_9 : fU h_8 b1 (19, ow, .inl ((G.2.1 2), 30, .inl (fun i => nI (hz (va_up (va_up th (mn * 30 + lo) 0) (mn * 30 + lo) 2) mn i)))) = h_9 at hI
    have hX := hX.set (e := .inl ((G.2.1 2), 30, .inl (fun i => nI (hz (va_up (va_up th (mn * 30 + lo) 0) (mn * 30 + lo) 2) mn i)))) g_b1 (by decide); rw [eh_9] at hX
    have hF := hF.set (e := .inl ((G.2.1 2), 30, .inl (fun i => nI (hz (va_up (va_up th (mn * 30 + lo) 0) (mn * 30 + lo) 2) mn i)))) g_b1 ⟨by decide, by decide, rfl⟩; rw [eh_9] at hF
    have g_Z : h_9 Z = some (18, ow, .inr (5, [.int (nI mn), va_rf bo, .ref b1, .ref b2, .ref b3])) := (congrFun eh_9 Z).symm.trans (fU_keep g_Z (f_neR g_Z g_b1 (by decide)))
    have g_b2 : h_9 b2 = some (20, ow, .inl ((G.2.1 1), 30, .inr (.inl (vp_updL ce lo (-9223372036854775808))))) := (congrFun eh_9 b2).symm.trans (fU_keep g_b2 (f_neR g_b2 g_b1 (by decide)))
    have g_b3 : h_9 b3 = some (21, ow, .inl ((G.2.1 1), 30, .inr (.inl (vp_updL ch lo 0)))) := (congrFun eh_9 b3).symm.trans (fU_keep g_b3 (f_neR g_b3 g_b1 (by decide)))
    have g_b1 : h_9 b1 = some (19, ow, .inl ((G.2.1 2), 30, .inl (fun i => nI (hz (va_up (va_up th (mn * 30 + lo) 0) (mn * 30 + lo) 2) mn i)))) := (congrFun eh_9 b1).symm.trans (fU_self _ _ _)
    exact f_vret C hr hI ⟨cRt_put (c1 := c1) g_Z g_b1 g_b2 (g_b3) hce rfl, hF⟩ hX (Nat.le_refl _) (Nat.le_refl _) d_RE_put_68
  · refine f_asi (if_neg hs1) ?_
    refine lv_if_eq (tgt := 28) hx hb d_RE_put_13 (by decide) (fun c_10 => ?_) (fun c_10 => absurd (by decide) c_10)
    refine lv_iconst (v := 0) hx hb d_RE_put_28 (by decide) ?_
    refine lv_istore (lv' := [(4, .int 0), (0, .ref Z), (1, .int (nI lo)), (2, .long (-9223372036854775808))]) hx hb d_RE_put_29 hl (by decide) rfl (fun ls hl => ?_)
    refine lv_aload_n hx hb d_RE_put_31 rfl (lv_at hl 1 rfl) ?_
    refine f_get (C := "DutyRules$Return") (T := T_RE) (N := 5) hx hb (fun w q => hT w (s_RE w q)) hown hK hI g_Z rfl 4 (by decide) (hT _ w_729) (fun _ q => q) rfl d_RE_put_32 ?_
    refine lv_iload_n hx hb d_RE_put_35 rfl (lv_at hl 2 rfl) ?_
    refine lv_iload hx hb d_RE_put_36 (lv_at hl 0 rfl) ?_
    refine lv_if_eq (tgt := 52) hx hb d_RE_put_38 (by decide) (fun c_11 => ?_) (fun c_11 => absurd (by decide) c_11)
    refine lv_lconst (v := 0) hx hb d_RE_put_52 (by decide) ?_
    refine f_lastn (k := lo) (f' := (vp_updL ch lo 0)) hx hb hI g_b3 (by decide) (fT.ofK hK (t0 := 1) rfl) (by omega) (by omega) rfl d_RE_put_53 (fun H locs hI => ?_)
    generalize eh_12 : fU h b3 (21, ow, .inl ((G.2.1 1), 30, .inr (.inl (vp_updL ch lo 0)))) = h_12 at hI
    have hX := hX.set (e := .inl ((G.2.1 1), 30, .inr (.inl (vp_updL ch lo 0)))) g_b3 (by decide); rw [eh_12] at hX
    have hF := hF.set (e := .inl ((G.2.1 1), 30, .inr (.inl (vp_updL ch lo 0)))) g_b3 ⟨by decide, by decide, rfl⟩; rw [eh_12] at hF
    have g_Z : h_12 Z = some (18, ow, .inr (5, [.int (nI mn), va_rf bo, .ref b1, .ref b2, .ref b3])) := (congrFun eh_12 Z).symm.trans (fU_keep g_Z (f_neR g_Z g_b3 (by decide)))
    have g_b1 : h_12 b1 = some (19, ow, .inl ((G.2.1 2), 30, .inl (fun i => nI (hz th mn i)))) := (congrFun eh_12 b1).symm.trans (fU_keep g_b1 (f_neR g_b1 g_b3 (by decide)))
    have g_b2 : h_12 b2 = some (20, ow, .inl ((G.2.1 1), 30, .inr (.inl ce))) := (congrFun eh_12 b2).symm.trans (fU_keep g_b2 (f_neR g_b2 g_b3 (by decide)))
    have g_b3 : h_12 b3 = some (21, ow, .inl ((G.2.1 1), 30, .inr (.inl (vp_updL ch lo 0)))) := (congrFun eh_12 b3).symm.trans (fU_self _ _ _)
    refine lv_aload_n hx hb d_RE_put_54 rfl (lv_at hl 1 rfl) ?_
    refine f_get (C := "DutyRules$Return") (T := T_RE) (N := 5) hx hb (fun w q => hT w (s_RE w q)) hown hK hI g_Z rfl 3 (by decide) (hT _ w_727) (fun _ q => q) rfl d_RE_put_55 ?_
    refine lv_iload_n hx hb d_RE_put_58 rfl (lv_at hl 2 rfl) ?_
    refine lv_lload_n hx hb d_RE_put_59 rfl (lv_at hl 3 rfl) ?_
    refine f_lastn (k := lo) (f' := (vp_updL ce lo (-9223372036854775808))) hx hb hI g_b2 (by decide) (fT.ofK hK (t0 := 1) rfl) (by omega) (by omega) rfl d_RE_put_60 (fun H locs hI => ?_)
    generalize eh_13 : fU h_12 b2 (20, ow, .inl ((G.2.1 1), 30, .inr (.inl (vp_updL ce lo (-9223372036854775808))))) = h_13 at hI
    have hX := hX.set (e := .inl ((G.2.1 1), 30, .inr (.inl (vp_updL ce lo (-9223372036854775808))))) g_b2 (by decide); rw [eh_13] at hX
    have hF := hF.set (e := .inl ((G.2.1 1), 30, .inr (.inl (vp_updL ce lo (-9223372036854775808))))) g_b2 ⟨by decide, by decide, rfl⟩; rw [eh_13] at hF
    have g_Z : h_13 Z = some (18, ow, .inr (5, [.int (nI mn), va_rf bo, .ref b1, .ref b2, .ref b3])) := (congrFun eh_13 Z).symm.trans (fU_keep g_Z (f_neR g_Z g_b2 (by decide)))
    have g_b1 : h_13 b1 = some (19, ow, .inl ((G.2.1 2), 30, .inl (fun i => nI (hz th mn i)))) := (congrFun eh_13 b1).symm.trans (fU_keep g_b1 (f_neR g_b1 g_b2 (by decide)))
    have g_b3 : h_13 b3 = some (21, ow, .inl ((G.2.1 1), 30, .inr (.inl (vp_updL ch lo 0)))) := (congrFun eh_13 b3).symm.trans (fU_keep g_b3 (f_neR g_b3 g_b2 (by decide)))
    have g_b2 : h_13 b2 = some (20, ow, .inl ((G.2.1 1), 30, .inr (.inl (vp_updL ce lo (-9223372036854775808))))) := (congrFun eh_13 b2).symm.trans (fU_self _ _ _)
    refine lv_aload_n hx hb d_RE_put_61 rfl (lv_at hl 1 rfl) ?_
    refine f_get (C := "DutyRules$Return") (T := T_RE) (N := 5) hx hb (fun w q => hT w (s_RE w q)) hown hK hI g_Z rfl 2 (by decide) (hT _ w_726) (fun _ q => q) rfl d_RE_put_62 ?_
    refine lv_iload_n hx hb d_RE_put_65 rfl (lv_at hl 2 rfl) ?_
    refine lv_iconst (v := 1) hx hb d_RE_put_66 (by decide) ?_
    refine f_zastn (k := lo) (f' := (fun i => nI (hz (va_up (va_up th (mn * 30 + lo) 0) (mn * 30 + lo) 2) mn i))) hx hb hI g_b1 (by decide) (fT.ofK hK (t0 := 2) rfl) (by omega) (by omega) (hz_up blo (by decide)) d_RE_put_67 (fun H locs hI => ?_)
    generalize eh_14 : fU h_13 b1 (19, ow, .inl ((G.2.1 2), 30, .inl (fun i => nI (hz (va_up (va_up th (mn * 30 + lo) 0) (mn * 30 + lo) 2) mn i)))) = h_14 at hI
    have hX := hX.set (e := .inl ((G.2.1 2), 30, .inl (fun i => nI (hz (va_up (va_up th (mn * 30 + lo) 0) (mn * 30 + lo) 2) mn i)))) g_b1 (by decide); rw [eh_14] at hX
    have hF := hF.set (e := .inl ((G.2.1 2), 30, .inl (fun i => nI (hz (va_up (va_up th (mn * 30 + lo) 0) (mn * 30 + lo) 2) mn i)))) g_b1 ⟨by decide, by decide, rfl⟩; rw [eh_14] at hF
    have g_Z : h_14 Z = some (18, ow, .inr (5, [.int (nI mn), va_rf bo, .ref b1, .ref b2, .ref b3])) := (congrFun eh_14 Z).symm.trans (fU_keep g_Z (f_neR g_Z g_b1 (by decide)))
    have g_b2 : h_14 b2 = some (20, ow, .inl ((G.2.1 1), 30, .inr (.inl (vp_updL ce lo (-9223372036854775808))))) := (congrFun eh_14 b2).symm.trans (fU_keep g_b2 (f_neR g_b2 g_b1 (by decide)))
    have g_b3 : h_14 b3 = some (21, ow, .inl ((G.2.1 1), 30, .inr (.inl (vp_updL ch lo 0)))) := (congrFun eh_14 b3).symm.trans (fU_keep g_b3 (f_neR g_b3 g_b1 (by decide)))
    have g_b1 : h_14 b1 = some (19, ow, .inl ((G.2.1 2), 30, .inl (fun i => nI (hz (va_up (va_up th (mn * 30 + lo) 0) (mn * 30 + lo) 2) mn i)))) := (congrFun eh_14 b1).symm.trans (fU_self _ _ _)
    exact f_vret C hr hI ⟨cRt_put (c1 := c1) g_Z g_b1 g_b2 (g_b3) hce rfl, hF⟩ hX (Nat.le_refl _) (Nat.le_refl _) d_RE_put_68
theorem gm_RE_count : gM y_RE_count b_RE_count 3 (some .int) 0 := ⟨w_764, w_21, ⟨by decide, by decide⟩, by decide +kernel⟩
set_option maxHeartbeats 4000000 in
set_option maxRecDepth 100000 in
/-- RE_count  -/
theorem c_RE_count (l : Launch) (G : gG) (h : fH) (sz : Nat) (Z ow mn : Nat) (bo : Option Nat) (th du : Nat → Nat) (ch : Nat → Int64) (hZ1 : cRt G h Z ow mn bo th du ch) (bth : ∀ i, th i ≤ 2) (bdu : ∀ i, du i ≤ 1000000000) : cM l y_RE_count b_RE_count 3 (some .int) { frames := 0, cells := 0, slots := 0, locals := 0 } G [.ref Z] h sz (cQi G h sz (fun z h' => z = nI (cnt th mn 30) ∧ h' = h)) := by
  refine f_start (by decide) (Nat.le_of_ble_eq_true rfl) ?_
  intro p e s m below meth c ls C hr hsz hI hl
  obtain ⟨hx, hb, hml, hown, hnm, hlk, hT, hG, hZ⟩ := id C
  have hK := hG.1
  have hX : fX h sz h := fX.rf
  have hl : lv_has ls 3 [(0, .ref Z)] := hl
  obtain ⟨b1, b2, b3, ce, g_Z, g_b1, g_b2, g_b3, hce⟩ := id hZ1
  have J4 : ∀ (k n : Nat), n + k = 30 → ∀ (H : Heap) (locs : List Loc), fI G.1 g_cl (fA h sz) s.heap h H locs → ∀ ls : Array Slot, lv_has ls 3 [(0, .ref Z), (1, .int (nI (cnt th mn n))), (2, .int (nI n))] → W p l e { frames := 0, cells := 0, slots := 0, locals := 0 } s m ([.ref Z] : List Value).toArray below meth c H locs 0 0 (MQ below (cQi G h sz (fun z h' => z = nI (cnt th mn 30) ∧ h' = h)) ([.ref Z] : List Value).toArray s 0 0 (fA h sz)) (F0 m 4 ls []) := by
    intro k
    induction k with
    | zero =>
      intro n hn H locs hI ls hl
      refine lv_iload_n hx hb d_RE_count_4 rfl (lv_at hl 2 rfl) ?_
      refine lv_bipush (v := 30) hx hb d_RE_count_5 (by decide) ?_
      refine lv_icmp_ge (tgt := 28) hx hb d_RE_count_7 (by decide) (fun c_1 => ?_) (fun c_1 => absurd ((n_le (a := 30) (b := n) (by omega) (by omega)).mpr (by omega)) c_1)
      refine lv_iload_n hx hb d_RE_count_28 rfl (lv_at hl 1 rfl) ?_
      exact f_iret C hr hI ⟨by rw [show n = 30 by omega], rfl⟩ hX (Nat.le_refl _) (Nat.le_refl _) d_RE_count_29
    | succ k ih =>
      intro n hn H locs hI ls hl
      have ih : ∀ n : Nat, n + k = 30 → ∀ (H : Heap) (locs : List Loc), fI G.1 g_cl (fA h sz) s.heap h H locs → ∀ ls : Array Slot, lv_has ls 3 [(0, .ref Z), (1, .int (nI (cnt th mn n))), (2, .int (nI n))] → W p l e { frames := 0, cells := 0, slots := 0, locals := 0 } s m ([.ref Z] : List Value).toArray below meth c H locs 0 0 (MQ below (cQi G h sz (fun z h' => z = nI (cnt th mn 30) ∧ h' = h)) ([.ref Z] : List Value).toArray s 0 0 (fA h sz)) (F0 m 4 ls []) := ih
      have hz9 := hz_le th mn n
      have hc9 := cnt_le th mn n
      refine lv_iload_n hx hb d_RE_count_4 rfl (lv_at hl 2 rfl) ?_
      refine lv_bipush (v := 30) hx hb d_RE_count_5 (by decide) ?_
      refine lv_icmp_ge (tgt := 28) hx hb d_RE_count_7 (by decide) (fun c_2 => absurd c_2 (fun q => absurd ((n_le (a := 30) (b := n) (by omega) (by omega)).mp q) (by omega))) (fun c_2 => ?_)
      refine lv_aload_n hx hb d_RE_count_10 rfl (lv_at hl 0 rfl) ?_
      refine f_get (C := "DutyRules$Return") (T := T_RE) (N := 5) hx hb (fun w q => hT w (s_RE w q)) hown hK hI g_Z rfl 2 (by decide) (hT _ w_726) (fun _ q => q) rfl d_RE_count_11 ?_
      refine lv_iload_n hx hb d_RE_count_14 rfl (lv_at hl 2 rfl) ?_
      refine f_zaldn (k := n) (v := (nI (hz th mn n))) hx hb hI g_b1 (fT.ofK hK (t0 := 2) rfl) (by omega) (by omega) rfl d_RE_count_15 ?_
      refine lv_if_eq (tgt := 22) hx hb d_RE_count_16 (by decide) (fun c_3 => ?_) (fun c_3 => ?_)
      · have c_3 : (hz th mn n) = 0 := (n_eq (a := (hz th mn n)) (b := 0) (by omega) (by omega)).mp c_3
        refine lv_iinc (v := nI (n + 1)) (lv' := [(2, .int (nI (n + 1))), (0, .ref Z), (1, .int (nI (cnt th mn n)))]) hx hb d_RE_count_22 hl (k := 2) rfl (f_inc1 _) (by decide) rfl (fun ls hl => ?_)
        refine lv_goto (tgt := 4) hx hb d_RE_count_25 (by decide) ?_
        have hcs : cnt th mn (n + 1) = cnt th mn n := by show cnt th mn n + hz th mn n = _; omega
        refine ih (n + 1) (by omega) _ _ hI ls ?_
        rw [hcs]
        exact lv_sub hl [1, 2, 0] rfl
      · have c_3 : ¬ (hz th mn n) = 0 := fun q => c_3 ((n_eq (a := (hz th mn n)) (b := 0) (by omega) (by omega)).mpr q)
        refine lv_iinc (v := nI (cnt th mn n + 1)) (lv' := [(1, .int (nI (cnt th mn n + 1))), (0, .ref Z), (2, .int (nI n))]) hx hb d_RE_count_19 hl (k := 1) rfl (f_inc1 _) (by decide) rfl (fun ls hl => ?_)
        refine lv_iinc (v := nI (n + 1)) (lv' := [(2, .int (nI (n + 1))), (1, .int (nI (cnt th mn n + 1))), (0, .ref Z)]) hx hb d_RE_count_22 hl (k := 2) rfl (f_inc1 _) (by decide) rfl (fun ls hl => ?_)
        refine lv_goto (tgt := 4) hx hb d_RE_count_25 (by decide) ?_
        have hcs : cnt th mn (n + 1) = cnt th mn n + 1 := by show cnt th mn n + hz th mn n = _; omega
        refine ih (n + 1) (by omega) _ _ hI ls ?_
        rw [hcs]
        exact lv_sub hl [2, 1, 0] rfl
  refine lv_iconst (v := 0) hx hb d_RE_count_0 (by decide) ?_
  refine lv_istore_n (lv' := [(1, .int 0), (0, .ref Z)]) hx hb d_RE_count_1 rfl hl (by decide) rfl (fun ls hl => ?_)
  refine lv_iconst (v := 0) hx hb d_RE_count_2 (by decide) ?_
  refine lv_istore_n (lv' := [(2, .int 0), (1, .int 0), (0, .ref Z)]) hx hb d_RE_count_3 rfl hl (by decide) rfl (fun ls hl => ?_)
  refine J4 30 0 (by omega) _ _ hI ls ?_
  exact lv_sub hl [2, 1, 0] rfl
theorem gm_RE_lotOfRow : gM y_RE_lotOfRow b_RE_lotOfRow 4 (some .int) 1 := ⟨w_772, w_21, ⟨by decide, by decide⟩, by decide +kernel⟩
set_option maxHeartbeats 4000000 in
set_option maxRecDepth 100000 in
/-- RE_lotOfRow  -/
theorem c_RE_lotOfRow (l : Launch) (G : gG) (h : fH) (sz : Nat) (Z ow mn : Nat) (bo : Option Nat) (th du : Nat → Nat) (ch : Nat → Int64) (hZ1 : cRt G h Z ow mn bo th du ch) (bth : ∀ i, th i ≤ 2) (bdu : ∀ i, du i ≤ 1000000000) (k1 : Int32) : cM l y_RE_lotOfRow b_RE_lotOfRow 4 (some .int) { frames := 0, cells := 0, slots := 0, locals := 0 } G [.ref Z, .int k1] h sz (cQi G h sz (fun z h' => z = oN (ff (fun i => decide (hz th mn i = 1 ∧ nI (cnt th mn i) = k1)) 0 30) ∧ h' = h)) := by
  refine f_start (by decide) (Nat.le_of_ble_eq_true rfl) ?_
  intro p e s m below meth c ls C hr hsz hI hl
  obtain ⟨hx, hb, hml, hown, hnm, hlk, hT, hG, hZ⟩ := id C
  have hK := hG.1
  have hX : fX h sz h := fX.rf
  have hl : lv_has ls 4 [(0, .ref Z), (1, .int k1)] := hl
  obtain ⟨b1, b2, b3, ce, g_Z, g_b1, g_b2, g_b3, hce⟩ := id hZ1
  have J4 : ∀ (k n : Nat), n + k = 30 → ff (fun i => decide (hz th mn i = 1 ∧ nI (cnt th mn i) = k1)) 0 30 = ff (fun i => decide (hz th mn i = 1 ∧ nI (cnt th mn i) = k1)) n k → ∀ (H : Heap) (locs : List Loc), fI G.1 g_cl (fA h sz) s.heap h H locs → ∀ ls : Array Slot, lv_has ls 4 [(0, .ref Z), (1, .int k1), (2, .int (nI (cnt th mn n))), (3, .int (nI n))] → W p l e { frames := 0, cells := 0, slots := 0, locals := 0 } s m ([.ref Z, .int k1] : List Value).toArray below meth c H locs 0 0 (MQ below (cQi G h sz (fun z h' => z = oN (ff (fun i => decide (hz th mn i = 1 ∧ nI (cnt th mn i) = k1)) 0 30) ∧ h' = h)) ([.ref Z, .int k1] : List Value).toArray s 0 0 (fA h sz)) (F0 m 4 ls []) := by
    intro k
    induction k with
    | zero =>
      intro n hn hff H locs hI ls hl
      refine lv_iload_n hx hb d_RE_lotOfRow_4 rfl (lv_at hl 3 rfl) ?_
      refine lv_bipush (v := 30) hx hb d_RE_lotOfRow_5 (by decide) ?_
      refine lv_icmp_ge (tgt := 35) hx hb d_RE_lotOfRow_7 (by decide) (fun c_1 => ?_) (fun c_1 => absurd ((n_le (a := 30) (b := n) (by omega) (by omega)).mpr (by omega)) c_1)
      refine lv_iconst (v := (-1)) hx hb d_RE_lotOfRow_35 (by decide) ?_
      exact f_iret C hr hI ⟨by rw [hff]; rfl, rfl⟩ hX (Nat.le_refl _) (Nat.le_refl _) d_RE_lotOfRow_36
    | succ k ih =>
      intro n hn hff H locs hI ls hl
      have ih : ∀ n : Nat, n + k = 30 → ff (fun i => decide (hz th mn i = 1 ∧ nI (cnt th mn i) = k1)) 0 30 = ff (fun i => decide (hz th mn i = 1 ∧ nI (cnt th mn i) = k1)) n k → ∀ (H : Heap) (locs : List Loc), fI G.1 g_cl (fA h sz) s.heap h H locs → ∀ ls : Array Slot, lv_has ls 4 [(0, .ref Z), (1, .int k1), (2, .int (nI (cnt th mn n))), (3, .int (nI n))] → W p l e { frames := 0, cells := 0, slots := 0, locals := 0 } s m ([.ref Z, .int k1] : List Value).toArray below meth c H locs 0 0 (MQ below (cQi G h sz (fun z h' => z = oN (ff (fun i => decide (hz th mn i = 1 ∧ nI (cnt th mn i) = k1)) 0 30) ∧ h' = h)) ([.ref Z, .int k1] : List Value).toArray s 0 0 (fA h sz)) (F0 m 4 ls []) := ih
      have hz9 := hz_le th mn n
      have hc9 := cnt_le th mn n
      refine lv_iload_n hx hb d_RE_lotOfRow_4 rfl (lv_at hl 3 rfl) ?_
      refine lv_bipush (v := 30) hx hb d_RE_lotOfRow_5 (by decide) ?_
      refine lv_icmp_ge (tgt := 35) hx hb d_RE_lotOfRow_7 (by decide) (fun c_2 => absurd c_2 (fun q => absurd ((n_le (a := 30) (b := n) (by omega) (by omega)).mp q) (by omega))) (fun c_2 => ?_)
      refine lv_aload_n hx hb d_RE_lotOfRow_10 rfl (lv_at hl 0 rfl) ?_
      refine f_get (C := "DutyRules$Return") (T := T_RE) (N := 5) hx hb (fun w q => hT w (s_RE w q)) hown hK hI g_Z rfl 2 (by decide) (hT _ w_726) (fun _ q => q) rfl d_RE_lotOfRow_11 ?_
      refine lv_iload_n hx hb d_RE_lotOfRow_14 rfl (lv_at hl 3 rfl) ?_
      refine f_zaldn (k := n) (v := (nI (hz th mn n))) hx hb hI g_b1 (fT.ofK hK (t0 := 2) rfl) (by omega) (by omega) rfl d_RE_lotOfRow_15 ?_
      refine lv_if_eq (tgt := 29) hx hb d_RE_lotOfRow_16 (by decide) (fun c_3 => ?_) (fun c_3 => ?_)
      · have c_3 : (hz th mn n) = 0 := (n_eq (a := (hz th mn n)) (b := 0) (by omega) (by omega)).mp c_3
        refine lv_iinc (v := nI (n + 1)) (lv' := [(3, .int (nI (n + 1))), (0, .ref Z), (1, .int k1), (2, .int (nI (cnt th mn n)))]) hx hb d_RE_lotOfRow_29 hl (k := 3) rfl (f_inc1 _) (by decide) rfl (fun ls hl => ?_)
        refine lv_goto (tgt := 4) hx hb d_RE_lotOfRow_32 (by decide) ?_
        have hP : ¬ (fun i => decide (hz th mn i = 1 ∧ nI (cnt th mn i) = k1)) n = true := by simp only [decide_eq_true_eq]; omega
        have hcs : cnt th mn (n + 1) = cnt th mn n := by show cnt th mn n + hz th mn n = _; omega
        refine ih (n + 1) (by omega) (hff.trans (if_neg hP)) _ _ hI ls ?_
        rw [hcs]
        exact lv_sub hl [1, 2, 3, 0] rfl
      · have c_3 : ¬ (hz th mn n) = 0 := fun q => c_3 ((n_eq (a := (hz th mn n)) (b := 0) (by omega) (by omega)).mpr q)
        refine lv_iload_n hx hb d_RE_lotOfRow_19 rfl (lv_at hl 2 rfl) ?_
        refine lv_iload_n hx hb d_RE_lotOfRow_20 rfl (lv_at hl 1 rfl) ?_
        refine lv_icmp_ne (tgt := 26) hx hb d_RE_lotOfRow_21 (by decide) (fun c_4 => ?_) (fun c_4 => ?_)
        · skip
          refine lv_iinc (v := nI (cnt th mn n + 1)) (lv' := [(2, .int (nI (cnt th mn n + 1))), (0, .ref Z), (1, .int k1), (3, .int (nI n))]) hx hb d_RE_lotOfRow_26 hl (k := 2) rfl (f_inc1 _) (by decide) rfl (fun ls hl => ?_)
          refine lv_iinc (v := nI (n + 1)) (lv' := [(3, .int (nI (n + 1))), (2, .int (nI (cnt th mn n + 1))), (0, .ref Z), (1, .int k1)]) hx hb d_RE_lotOfRow_29 hl (k := 3) rfl (f_inc1 _) (by decide) rfl (fun ls hl => ?_)
          refine lv_goto (tgt := 4) hx hb d_RE_lotOfRow_32 (by decide) ?_
          have hP : ¬ (fun i => decide (hz th mn i = 1 ∧ nI (cnt th mn i) = k1)) n = true := by simp only [decide_eq_true_eq]; exact fun q => c_4 q.2
          have hcs : cnt th mn (n + 1) = cnt th mn n + 1 := by show cnt th mn n + hz th mn n = _; omega
          refine ih (n + 1) (by omega) (hff.trans (if_neg hP)) _ _ hI ls ?_
          rw [hcs]
          exact lv_sub hl [2, 3, 1, 0] rfl
        · skip
          refine lv_iload_n hx hb d_RE_lotOfRow_24 rfl (lv_at hl 3 rfl) ?_
          exact f_iret C hr hI ⟨by rw [hff, show ff (fun i => decide (hz th mn i = 1 ∧ nI (cnt th mn i) = k1)) n (k + 1) = some n from if_pos (by simp only [decide_eq_true_eq]; exact ⟨by omega, c_4⟩)]; rfl, rfl⟩ hX (Nat.le_refl _) (Nat.le_refl _) d_RE_lotOfRow_25
  refine lv_iconst (v := 0) hx hb d_RE_lotOfRow_0 (by decide) ?_
  refine lv_istore_n (lv' := [(2, .int 0), (0, .ref Z), (1, .int k1)]) hx hb d_RE_lotOfRow_1 rfl hl (by decide) rfl (fun ls hl => ?_)
  refine lv_iconst (v := 0) hx hb d_RE_lotOfRow_2 (by decide) ?_
  refine lv_istore_n (lv' := [(3, .int 0), (2, .int 0), (0, .ref Z), (1, .int k1)]) hx hb d_RE_lotOfRow_3 rfl hl (by decide) rfl (fun ls hl => ?_)
  refine J4 30 0 (by omega) rfl _ _ hI ls ?_
  exact lv_sub hl [2, 3, 1, 0] rfl
theorem gm_RE_settledSum : gM y_RE_settledSum b_RE_settledSum 4 (some .long) 0 := ⟨w_794, w_21, ⟨by decide, by decide⟩, by decide +kernel⟩
set_option maxHeartbeats 4000000 in
set_option maxRecDepth 100000 in
/-- RE_settledSum  -/
theorem c_RE_settledSum (l : Launch) (G : gG) (h : fH) (sz : Nat) (Z ow mn : Nat) (bo : Option Nat) (th du : Nat → Nat) (ch : Nat → Int64) (hZ1 : cRt G h Z ow mn bo th du ch) (bth : ∀ i, th i ≤ 2) (bdu : ∀ i, du i ≤ 1000000000) : cM l y_RE_settledSum b_RE_settledSum 4 (some .long) { frames := 2, cells := 0, slots := 0, locals := 41 } G [.ref Z] h sz (cQl G h sz (fun z h' => z = lN (sumN (duN th du mn) 30) ∧ h' = h)) := by
  refine f_start (by decide) (Nat.le_of_ble_eq_true rfl) ?_
  intro p e s m below meth c ls C hr hsz hI hl
  obtain ⟨hx, hb, hml, hown, hnm, hlk, hT, hG, hZ⟩ := id C
  have hK := hG.1
  have hX : fX h sz h := fX.rf
  have hl : lv_has ls 4 [(0, .ref Z)] := hl
  obtain ⟨b1, b2, b3, ce, g_Z, g_b1, g_b2, g_b3, hce⟩ := id hZ1
  have J4 : ∀ (k n : Nat), n + k = 30 → ∀ (H : Heap) (locs : List Loc), fI G.1 g_cl (fA h sz) s.heap h H locs → ∀ ls : Array Slot, lv_has ls 4 [(0, .ref Z), (1, .long (lN (sumN (duN th du mn) n))), (3, .int (nI n))] → W p l e { frames := 2, cells := 0, slots := 0, locals := 41 } s m ([.ref Z] : List Value).toArray below meth c H locs 0 0 (MQ below (cQl G h sz (fun z h' => z = lN (sumN (duN th du mn) 30) ∧ h' = h)) ([.ref Z] : List Value).toArray s 0 0 (fA h sz)) (F0 m 4 ls []) := by
    intro k
    induction k with
    | zero =>
      intro n hn H locs hI ls hl
      refine lv_iload_n hx hb d_RE_settledSum_4 rfl (lv_at hl 2 rfl) ?_
      refine lv_bipush (v := 30) hx hb d_RE_settledSum_5 (by decide) ?_
      refine lv_icmp_ge (tgt := 33) hx hb d_RE_settledSum_7 (by decide) (fun c_1 => ?_) (fun c_1 => absurd ((n_le (a := 30) (b := n) (by omega) (by omega)).mpr (by omega)) c_1)
      refine lv_lload_n hx hb d_RE_settledSum_33 rfl (lv_at hl 1 rfl) ?_
      exact f_lret C hr hI ⟨by rw [show n = 30 by omega], rfl⟩ hX (Nat.le_refl _) (Nat.le_refl _) d_RE_settledSum_34
    | succ k ih =>
      intro n hn H locs hI ls hl
      have ih : ∀ n : Nat, n + k = 30 → ∀ (H : Heap) (locs : List Loc), fI G.1 g_cl (fA h sz) s.heap h H locs → ∀ ls : Array Slot, lv_has ls 4 [(0, .ref Z), (1, .long (lN (sumN (duN th du mn) n))), (3, .int (nI n))] → W p l e { frames := 2, cells := 0, slots := 0, locals := 41 } s m ([.ref Z] : List Value).toArray below meth c H locs 0 0 (MQ below (cQl G h sz (fun z h' => z = lN (sumN (duN th du mn) 30) ∧ h' = h)) ([.ref Z] : List Value).toArray s 0 0 (fA h sz)) (F0 m 4 ls []) := ih
      refine lv_iload_n hx hb d_RE_settledSum_4 rfl (lv_at hl 2 rfl) ?_
      refine lv_bipush (v := 30) hx hb d_RE_settledSum_5 (by decide) ?_
      refine lv_icmp_ge (tgt := 33) hx hb d_RE_settledSum_7 (by decide) (fun c_2 => absurd c_2 (fun q => absurd ((n_le (a := 30) (b := n) (by omega) (by omega)).mp q) (by omega))) (fun c_2 => ?_)
      refine lv_aload_n hx hb d_RE_settledSum_10 rfl (lv_at hl 0 rfl) ?_
      refine lv_iload_n hx hb d_RE_settledSum_11 rfl (lv_at hl 2 rfl) ?_
      refine f_calli hI (f_runV C hI (c_RE_isSettled l G h _ Z ow mn bo th du ch hZ1 bth bdu n (by omega)) gm_RE_isSettled w_757 w_758 w_756 g_Z rfl rfl rfl hl.1 rfl (Nat.le_of_ble_eq_true rfl) ⟨Nat.le_of_ble_eq_true rfl, Nat.le_of_ble_eq_true rfl⟩ d_RE_settledSum_12 ⟨Nat.le_of_ble_eq_true rfl, Nat.le_of_ble_eq_true rfl⟩) (fun r_3 h8 H9 locs hp9 hX9 hz9 hI => ?_)
      obtain ⟨rfl, e9⟩ := hp9
      rw [e9] at hI
      clear hX9 e9
      by_cases hs1 : th (mn * 30 + n) = 1
      · refine f_asi (if_pos hs1) ?_
        refine lv_if_eq (tgt := 27) hx hb d_RE_settledSum_15 (by decide) (fun c_4 => absurd c_4 (by decide)) (fun c_4 => ?_)
        refine lv_lload_n hx hb d_RE_settledSum_18 rfl (lv_at hl 1 rfl) ?_
        refine lv_aload_n hx hb d_RE_settledSum_19 rfl (lv_at hl 0 rfl) ?_
        refine f_get (C := "DutyRules$Return") (T := T_RE) (N := 5) hx hb (fun w q => hT w (s_RE w q)) hown hK hI g_Z rfl 3 (by decide) (hT _ w_727) (fun _ q => q) rfl d_RE_settledSum_20 ?_
        refine lv_iload_n hx hb d_RE_settledSum_23 rfl (lv_at hl 2 rfl) ?_
        refine f_laldn (k := n) (v := (lN (du (mn * 30 + n)))) hx hb hI g_b2 (fT.ofK hK (t0 := 1) rfl) (by omega) (by omega) ((hce n (by omega) (by rw [hs1]; decide)).trans (if_pos hs1)) d_RE_settledSum_24 ?_
        refine lv_ladd hx hb d_RE_settledSum_25 ?_
        refine f_asl (lN_add (sumN (duN th du mn) n) (du (mn * 30 + n))) ?_
        refine lv_lstore_n (lv' := [(1, .long (lN ((sumN (duN th du mn) n) + (du (mn * 30 + n))))), (0, .ref Z), (3, .int (nI n))]) hx hb d_RE_settledSum_26 rfl hl (by decide) rfl (fun ls hl => ?_)
        refine lv_iinc (v := nI (n + 1)) (lv' := [(3, .int (nI (n + 1))), (1, .long (lN ((sumN (duN th du mn) n) + (du (mn * 30 + n))))), (0, .ref Z)]) hx hb d_RE_settledSum_27 hl (k := 2) rfl (f_inc1 _) (by decide) rfl (fun ls hl => ?_)
        refine lv_goto (tgt := 4) hx hb d_RE_settledSum_30 (by decide) ?_
        refine ih (n + 1) (by omega) _ _ hI ls ?_
        rw [show sumN (duN th du mn) (n + 1) = sumN (duN th du mn) n + du (mn * 30 + n) by show sumN (duN th du mn) n + duN th du mn n = _; unfold duN; rw [if_pos hs1]]
        exact lv_sub hl [2, 1, 0] rfl
      · refine f_asi (if_neg hs1) ?_
        refine lv_if_eq (tgt := 27) hx hb d_RE_settledSum_15 (by decide) (fun c_5 => ?_) (fun c_5 => absurd (by decide) c_5)
        refine lv_iinc (v := nI (n + 1)) (lv' := [(3, .int (nI (n + 1))), (0, .ref Z), (1, .long (lN (sumN (duN th du mn) n)))]) hx hb d_RE_settledSum_27 hl (k := 2) rfl (f_inc1 _) (by decide) rfl (fun ls hl => ?_)
        refine lv_goto (tgt := 4) hx hb d_RE_settledSum_30 (by decide) ?_
        refine ih (n + 1) (by omega) _ _ hI ls ?_
        rw [show sumN (duN th du mn) (n + 1) = sumN (duN th du mn) n by show sumN (duN th du mn) n + duN th du mn n = _; unfold duN; rw [if_neg hs1, Nat.add_zero]]
        exact lv_sub hl [1, 2, 0] rfl
  refine lv_lconst (v := 0) hx hb d_RE_settledSum_0 (by decide) ?_
  refine lv_lstore_n (lv' := [(1, .long 0), (0, .ref Z)]) hx hb d_RE_settledSum_1 rfl hl (by decide) rfl (fun ls hl => ?_)
  refine lv_iconst (v := 0) hx hb d_RE_settledSum_2 (by decide) ?_
  refine lv_istore_n (lv' := [(3, .int 0), (1, .long 0), (0, .ref Z)]) hx hb d_RE_settledSum_3 rfl hl (by decide) rfl (fun ls hl => ?_)
  refine J4 30 0 (by omega) _ _ hI ls ?_
  exact lv_sub hl [2, 1, 0] rfl
theorem gm_RE_init : gM y_RE_init b_RE_init 3 none 2 := ⟨w_720, w_21, ⟨by decide, by decide⟩, by decide +kernel⟩
set_option maxHeartbeats 4000000 in
set_option maxRecDepth 100000 in
/-- RE_init  -/
theorem c_RE_init (l : Launch) (G : gG) (h : fH) (sz : Nat) (Z ow mn : Nat) (bo : Option Nat) (th du : Nat → Nat) (hth : ∀ i, i < 30 → th (mn * 30 + i) = 0) (g_Z : h Z = some (18, ow, .inr (5, [.int 0, .null, .null, .null, .null]))) : cM l y_RE_init b_RE_init 3 none { frames := 1, cells := 3, slots := 90, locals := 20 } G [.ref Z, .int (nI mn), va_rf bo] h sz (cQv G h sz (fun h' => cRt G h' Z ow mn bo th du (fun _ => 0) ∧ fF (inP 18 ow) h h')) := by
  refine f_start (by decide) (by cases bo <;> exact Nat.le_of_ble_eq_true rfl) ?_
  intro p e s m below meth c ls C hr hsz hI hl
  obtain ⟨hx, hb, hml, hown, hnm, hlk, hT, hG, hZ⟩ := id C
  have hK := hG.1
  have hX : fX h sz h := fX.rf
  have hl : lv_has ls 3 [(0, .ref Z), (1, .int (nI mn)), (2, va_rf bo)] := hl
  have hF : fF (inP 18 ow) h h := fF.rf
  refine lv_aload_n hx hb d_RE_init_0 rfl (lv_at hl 0 rfl) ?_
  refine W.objInit hx hb hown (hT _ w_721) (hT _ w_28) (hT _ w_29) rfl (by rw [hml]; exact hl.1) rfl d_RE_init_1 (Nat.le_of_ble_eq_true rfl) (Nat.le_of_ble_eq_true rfl) ?_
  refine W.eq (g2 := F0 m 4 ls []) rfl ?_
  refine lv_aload_n hx hb d_RE_init_4 rfl (lv_at hl 0 rfl) ?_
  refine lv_iload_n hx hb d_RE_init_5 rfl (lv_at hl 1 rfl) ?_
  refine f_putF (C := "DutyRules$Return") (T := T_RE) (N := 5) (fs' := [.int (nI mn), .null, .null, .null, .null]) (v := .int (nI mn)) hx hb (fun w q => hT w (s_RE w q)) t_RE k_RE n_RE hown hK hI g_Z (by decide) rfl 0 (by decide) (hT _ w_722) (fun _ q => q) rfl hnm rfl rfl rfl (Nat.le_of_ble_eq_true rfl) rfl d_RE_init_6 (fun H locs hI => ?_)
  generalize eh_1 : fU h Z (18, ow, .inr (5, [.int (nI mn), .null, .null, .null, .null])) = h_1 at hI
  have hX := hX.set (e := .inr (5, [.int (nI mn), .null, .null, .null, .null])) g_Z (by decide); rw [eh_1] at hX
  have hF := hF.set (e := .inr (5, [.int (nI mn), .null, .null, .null, .null])) g_Z ⟨rfl, rfl⟩; rw [eh_1] at hF
  have g_Z : h_1 Z = some (18, ow, .inr (5, [.int (nI mn), .null, .null, .null, .null])) := (congrFun eh_1 Z).symm.trans (fU_self _ _ _)
  refine lv_aload_n hx hb d_RE_init_9 rfl (lv_at hl 0 rfl) ?_
  refine f_aload_nq hx hb d_RE_init_10 rfl (lv_at hl 2 rfl) ?_
  refine f_putF (C := "DutyRules$Return") (T := T_RE) (N := 5) (fs' := [.int (nI mn), va_rf bo, .null, .null, .null]) (v := va_rf bo) hx hb (fun w q => hT w (s_RE w q)) t_RE k_RE n_RE hown hK hI g_Z (by decide) rfl 1 (by decide) (hT _ w_724) (fun _ q => q) rfl hnm rfl (f_rfn _ _) (f_rff _ _) (Nat.le_of_ble_eq_true rfl) rfl d_RE_init_11 (fun H locs hI => ?_)
  generalize eh_2 : fU h_1 Z (18, ow, .inr (5, [.int (nI mn), va_rf bo, .null, .null, .null])) = h_2 at hI
  have hX := hX.set (e := .inr (5, [.int (nI mn), va_rf bo, .null, .null, .null])) g_Z (by decide); rw [eh_2] at hX
  have hF := hF.set (e := .inr (5, [.int (nI mn), va_rf bo, .null, .null, .null])) g_Z ⟨rfl, rfl⟩; rw [eh_2] at hF
  have g_Z : h_2 Z = some (18, ow, .inr (5, [.int (nI mn), va_rf bo, .null, .null, .null])) := (congrFun eh_2 Z).symm.trans (fU_self _ _ _)
  refine lv_aload_n hx hb d_RE_init_14 rfl (lv_at hl 0 rfl) ?_
  refine lv_bipush (v := 30) hx hb d_RE_init_15 (by decide) ?_
  have hzN := hI.2.2.2.1
  refine f_newa (atype := .boolean) (a0 := (30, .inl (fun _ => 0))) (cA := (G.2.1 2)) hx hb (hT _ w_742) rfl hI (hK.2 2 _ rfl).2 rfl (by decide) rfl (by decide) 19 ow (Nat.le_of_ble_eq_true rfl) (Nat.le_of_ble_eq_true rfl) d_RE_init_17 (fun q_3 H eq_3 zq_3 nq_3 hI => ?_)
  generalize eh_4 : fU h_2 q_3 (19, ow, .inl ((G.2.1 2), 30, .inl (fun _ => 0))) = h_4 at hI
  have hX := hX.new (e := .inl ((G.2.1 2), 30, .inl (fun _ => 0))) (r := 19) (o := ow) nq_3 (by omega); rw [eh_4] at hX
  have hF := hF.new (c := (19, ow, .inl ((G.2.1 2), 30, .inl (fun _ => 0)))) nq_3; rw [eh_4] at hF
  have g_Z : h_4 Z = some (18, ow, .inr (5, [.int (nI mn), va_rf bo, .null, .null, .null])) := (congrFun eh_4 Z).symm.trans (fU_keep g_Z (f_neN g_Z nq_3))
  have g_q_3 : h_4 q_3 = some (19, ow, .inl ((G.2.1 2), 30, .inl (fun _ => 0))) := (congrFun eh_4 q_3).symm.trans (fU_self _ _ _)
  refine f_putF (C := "DutyRules$Return") (T := T_RE) (N := 5) (fs' := [.int (nI mn), va_rf bo, .ref q_3, .null, .null]) (v := .ref q_3) hx hb (fun w q => hT w (s_RE w q)) t_RE k_RE n_RE hown hK hI g_Z (by decide) rfl 2 (by decide) (hT _ w_726) (fun _ q => q) rfl hnm rfl rfl rfl (Nat.le_of_ble_eq_true rfl) rfl d_RE_init_19 (fun H locs hI => ?_)
  generalize eh_5 : fU h_4 Z (18, ow, .inr (5, [.int (nI mn), va_rf bo, .ref q_3, .null, .null])) = h_5 at hI
  have hX := hX.set (e := .inr (5, [.int (nI mn), va_rf bo, .ref q_3, .null, .null])) g_Z (by decide); rw [eh_5] at hX
  have hF := hF.set (e := .inr (5, [.int (nI mn), va_rf bo, .ref q_3, .null, .null])) g_Z ⟨rfl, rfl⟩; rw [eh_5] at hF
  have g_q_3 : h_5 q_3 = some (19, ow, .inl ((G.2.1 2), 30, .inl (fun _ => 0))) := (congrFun eh_5 q_3).symm.trans (fU_keep g_q_3 (f_neR g_q_3 g_Z (by decide)))
  have g_Z : h_5 Z = some (18, ow, .inr (5, [.int (nI mn), va_rf bo, .ref q_3, .null, .null])) := (congrFun eh_5 Z).symm.trans (fU_self _ _ _)
  refine lv_aload_n hx hb d_RE_init_22 rfl (lv_at hl 0 rfl) ?_
  refine lv_bipush (v := 30) hx hb d_RE_init_23 (by decide) ?_
  have hzN := hI.2.2.2.1
  refine f_newa (atype := .long) (a0 := (30, .inr (.inl (fun _ => 0)))) (cA := (G.2.1 1)) hx hb (hT _ w_143) rfl hI (hK.2 1 _ rfl).2 rfl (by decide) rfl (by decide) 20 ow (Nat.le_of_ble_eq_true rfl) (Nat.le_of_ble_eq_true rfl) d_RE_init_25 (fun q_6 H eq_6 zq_6 nq_6 hI => ?_)
  generalize eh_7 : fU h_5 q_6 (20, ow, .inl ((G.2.1 1), 30, .inr (.inl (fun _ => 0)))) = h_7 at hI
  have hX := hX.new (e := .inl ((G.2.1 1), 30, .inr (.inl (fun _ => 0)))) (r := 20) (o := ow) nq_6 (by omega); rw [eh_7] at hX
  have hF := hF.new (c := (20, ow, .inl ((G.2.1 1), 30, .inr (.inl (fun _ => 0))))) nq_6; rw [eh_7] at hF
  have g_Z : h_7 Z = some (18, ow, .inr (5, [.int (nI mn), va_rf bo, .ref q_3, .null, .null])) := (congrFun eh_7 Z).symm.trans (fU_keep g_Z (f_neN g_Z nq_6))
  have g_q_3 : h_7 q_3 = some (19, ow, .inl ((G.2.1 2), 30, .inl (fun _ => 0))) := (congrFun eh_7 q_3).symm.trans (fU_keep g_q_3 (f_neN g_q_3 nq_6))
  have g_q_6 : h_7 q_6 = some (20, ow, .inl ((G.2.1 1), 30, .inr (.inl (fun _ => 0)))) := (congrFun eh_7 q_6).symm.trans (fU_self _ _ _)
  refine f_putF (C := "DutyRules$Return") (T := T_RE) (N := 5) (fs' := [.int (nI mn), va_rf bo, .ref q_3, .ref q_6, .null]) (v := .ref q_6) hx hb (fun w q => hT w (s_RE w q)) t_RE k_RE n_RE hown hK hI g_Z (by decide) rfl 3 (by decide) (hT _ w_727) (fun _ q => q) rfl hnm rfl rfl rfl (Nat.le_of_ble_eq_true rfl) rfl d_RE_init_27 (fun H locs hI => ?_)
  generalize eh_8 : fU h_7 Z (18, ow, .inr (5, [.int (nI mn), va_rf bo, .ref q_3, .ref q_6, .null])) = h_8 at hI
  have hX := hX.set (e := .inr (5, [.int (nI mn), va_rf bo, .ref q_3, .ref q_6, .null])) g_Z (by decide); rw [eh_8] at hX
  have hF := hF.set (e := .inr (5, [.int (nI mn), va_rf bo, .ref q_3, .ref q_6, .null])) g_Z ⟨rfl, rfl⟩; rw [eh_8] at hF
  have g_q_3 : h_8 q_3 = some (19, ow, .inl ((G.2.1 2), 30, .inl (fun _ => 0))) := (congrFun eh_8 q_3).symm.trans (fU_keep g_q_3 (f_neR g_q_3 g_Z (by decide)))
  have g_q_6 : h_8 q_6 = some (20, ow, .inl ((G.2.1 1), 30, .inr (.inl (fun _ => 0)))) := (congrFun eh_8 q_6).symm.trans (fU_keep g_q_6 (f_neR g_q_6 g_Z (by decide)))
  have g_Z : h_8 Z = some (18, ow, .inr (5, [.int (nI mn), va_rf bo, .ref q_3, .ref q_6, .null])) := (congrFun eh_8 Z).symm.trans (fU_self _ _ _)
  refine lv_aload_n hx hb d_RE_init_30 rfl (lv_at hl 0 rfl) ?_
  refine lv_bipush (v := 30) hx hb d_RE_init_31 (by decide) ?_
  have hzN := hI.2.2.2.1
  refine f_newa (atype := .long) (a0 := (30, .inr (.inl (fun _ => 0)))) (cA := (G.2.1 1)) hx hb (hT _ w_143) rfl hI (hK.2 1 _ rfl).2 rfl (by decide) rfl (by decide) 21 ow (Nat.le_of_ble_eq_true rfl) (Nat.le_of_ble_eq_true rfl) d_RE_init_33 (fun q_9 H eq_9 zq_9 nq_9 hI => ?_)
  generalize eh_10 : fU h_8 q_9 (21, ow, .inl ((G.2.1 1), 30, .inr (.inl (fun _ => 0)))) = h_10 at hI
  have hX := hX.new (e := .inl ((G.2.1 1), 30, .inr (.inl (fun _ => 0)))) (r := 21) (o := ow) nq_9 (by omega); rw [eh_10] at hX
  have hF := hF.new (c := (21, ow, .inl ((G.2.1 1), 30, .inr (.inl (fun _ => 0))))) nq_9; rw [eh_10] at hF
  have g_Z : h_10 Z = some (18, ow, .inr (5, [.int (nI mn), va_rf bo, .ref q_3, .ref q_6, .null])) := (congrFun eh_10 Z).symm.trans (fU_keep g_Z (f_neN g_Z nq_9))
  have g_q_3 : h_10 q_3 = some (19, ow, .inl ((G.2.1 2), 30, .inl (fun _ => 0))) := (congrFun eh_10 q_3).symm.trans (fU_keep g_q_3 (f_neN g_q_3 nq_9))
  have g_q_6 : h_10 q_6 = some (20, ow, .inl ((G.2.1 1), 30, .inr (.inl (fun _ => 0)))) := (congrFun eh_10 q_6).symm.trans (fU_keep g_q_6 (f_neN g_q_6 nq_9))
  have g_q_9 : h_10 q_9 = some (21, ow, .inl ((G.2.1 1), 30, .inr (.inl (fun _ => 0)))) := (congrFun eh_10 q_9).symm.trans (fU_self _ _ _)
  refine f_putF (C := "DutyRules$Return") (T := T_RE) (N := 5) (fs' := [.int (nI mn), va_rf bo, .ref q_3, .ref q_6, .ref q_9]) (v := .ref q_9) hx hb (fun w q => hT w (s_RE w q)) t_RE k_RE n_RE hown hK hI g_Z (by decide) rfl 4 (by decide) (hT _ w_729) (fun _ q => q) rfl hnm rfl rfl rfl (Nat.le_of_ble_eq_true rfl) rfl d_RE_init_35 (fun H locs hI => ?_)
  generalize eh_11 : fU h_10 Z (18, ow, .inr (5, [.int (nI mn), va_rf bo, .ref q_3, .ref q_6, .ref q_9])) = h_11 at hI
  have hX := hX.set (e := .inr (5, [.int (nI mn), va_rf bo, .ref q_3, .ref q_6, .ref q_9])) g_Z (by decide); rw [eh_11] at hX
  have hF := hF.set (e := .inr (5, [.int (nI mn), va_rf bo, .ref q_3, .ref q_6, .ref q_9])) g_Z ⟨rfl, rfl⟩; rw [eh_11] at hF
  have g_q_3 : h_11 q_3 = some (19, ow, .inl ((G.2.1 2), 30, .inl (fun _ => 0))) := (congrFun eh_11 q_3).symm.trans (fU_keep g_q_3 (f_neR g_q_3 g_Z (by decide)))
  have g_q_6 : h_11 q_6 = some (20, ow, .inl ((G.2.1 1), 30, .inr (.inl (fun _ => 0)))) := (congrFun eh_11 q_6).symm.trans (fU_keep g_q_6 (f_neR g_q_6 g_Z (by decide)))
  have g_q_9 : h_11 q_9 = some (21, ow, .inl ((G.2.1 1), 30, .inr (.inl (fun _ => 0)))) := (congrFun eh_11 q_9).symm.trans (fU_keep g_q_9 (f_neR g_q_9 g_Z (by decide)))
  have g_Z : h_11 Z = some (18, ow, .inr (5, [.int (nI mn), va_rf bo, .ref q_3, .ref q_6, .ref q_9])) := (congrFun eh_11 Z).symm.trans (fU_self _ _ _)
  exact f_vret C hr hI ⟨⟨q_3, q_6, q_9, fun _ => 0, g_Z, by rw [show (fun i => nI (hz th mn i)) = fun _ => (0 : Int32) from funext (fun i => by unfold hz; rw [if_neg (fun q => q.2 (hth i q.1))]; rfl)]; exact g_q_3, g_q_6, g_q_9, fun i hi hn => absurd (hth i hi) hn⟩, hF⟩ hX (Nat.le_of_ble_eq_true rfl) (Nat.le_of_ble_eq_true rfl) d_RE_init_38
