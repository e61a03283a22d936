theorem gm_ED_init : gM y_ED_init b_ED_init 1 none 0 := ⟨w_67, w_6, ⟨by decide, by decide⟩, by decide +kernel⟩
set_option maxHeartbeats 4000000 in
set_option maxRecDepth 100000 in
/-- ED_init  -/
theorem c_ED_init (l : Launch) (G : gG) (h : fH) (sz : Nat) (E : Nat) (rr rm : Nat → Nat) (g_E : h E = some (4, 0, .inr (2, [.int 0, .null, .null]))) : cM l y_ED_init b_ED_init 1 none { frames := 1, cells := 2, slots := 20, locals := 20 } G [.ref E] h sz (cQv G h sz (fun h' => cEd G h' E 0 (fun _ => 0) rr rm ∧ fF (inR [4]) h h')) := by
  refine f_start (by decide) (Nat.le_of_ble_eq_true rfl) ?_
  intro p e s m below meth c ls C hr hsz hI hl
  obtain ⟨hx, hb, hml, hown, hnm, hlk, hT, hG, hZ⟩ := id C
  have hK := hG.1
  have hX : fX h sz h := fX.rf
  have hl : lv_has ls 1 [(0, .ref E)] := hl
  have hF : fF (inR [4]) h h := fF.rf
  refine lv_aload_n hx hb d_ED_init_0 rfl (lv_at hl 0 rfl) ?_
  refine W.objInit hx hb hown (hT _ w_68) (hT _ w_28) (hT _ w_29) rfl (by rw [hml]; exact hl.1) rfl d_ED_init_1 (Nat.le_of_ble_eq_true rfl) (Nat.le_of_ble_eq_true rfl) ?_
  refine W.eq (g2 := F0 m 4 ls []) rfl ?_
  refine lv_aload_n hx hb d_ED_init_4 rfl (lv_at hl 0 rfl) ?_
  refine lv_iconst (v := 0) hx hb d_ED_init_5 (by decide) ?_
  refine f_put (C := "DutyRules$Editions") (T := T_ED) (N := 3) (fs' := [.int 0, .null, .null]) (v := .int 0) hx hb (fun w q => hT w (s_ED w q)) t_ED k_ED n_ED hown hK hI g_E (by decide) rfl 0 (by decide) (hT _ w_71) (fun _ q => q) rfl rfl rfl (Nat.le_of_ble_eq_true rfl) rfl d_ED_init_6 (fun H locs hI => ?_)
  generalize eh_1 : fU h E (4, 0, .inr (2, [.int 0, .null, .null])) = h_1 at hI
  have hX := hX.set (e := .inr (2, [.int 0, .null, .null])) g_E (by decide); rw [eh_1] at hX
  have hF := hF.set (e := .inr (2, [.int 0, .null, .null])) g_E (by decide); rw [eh_1] at hF
  have g_E : h_1 E = some (4, 0, .inr (2, [.int 0, .null, .null])) := (congrFun eh_1 E).symm.trans (fU_self _ _ _)
  refine lv_aload_n hx hb d_ED_init_9 rfl (lv_at hl 0 rfl) ?_
  refine lv_bipush (v := 10) hx hb d_ED_init_10 (by decide) ?_
  have hzN := hI.2.2.2.1
  refine f_newq (N' := 10) (C := "DutyRules$Rules") (cA := (G.2.1 4)) hx hb hown (hT _ w_69) (hG.2.2.1 _ (by decide)) hI (f_RA (hK.2 4 _ rfl).2) (by decide) rfl (by decide) 5 0 (Nat.le_of_ble_eq_true rfl) (Nat.le_of_ble_eq_true rfl) d_ED_init_12 (fun q_2 H eq_2 zq_2 nq_2 hI => ?_)
  generalize eh_3 : fU h_1 q_2 (5, 0, .inl ((G.2.1 4), 10, .inr (.inr (.inr (.inr (fun _ => none)))))) = h_3 at hI
  have hX := hX.new (e := .inl ((G.2.1 4), 10, .inr (.inr (.inr (.inr (fun _ => none)))))) (r := 5) (o := 0) nq_2 (by omega); rw [eh_3] at hX
  have hF := hF.new (c := (5, 0, .inl ((G.2.1 4), 10, .inr (.inr (.inr (.inr (fun _ => none))))))) nq_2; rw [eh_3] at hF
  have g_E : h_3 E = some (4, 0, .inr (2, [.int 0, .null, .null])) := (congrFun eh_3 E).symm.trans (fU_keep g_E (f_neN g_E nq_2))
  have g_q_2 : h_3 q_2 = some (5, 0, .inl ((G.2.1 4), 10, .inr (.inr (.inr (.inr (fun _ => none)))))) := (congrFun eh_3 q_2).symm.trans (fU_self _ _ _)
  refine f_putF (C := "DutyRules$Editions") (T := T_ED) (N := 3) (fs' := [.int 0, .ref q_2, .null]) (v := .ref q_2) hx hb (fun w q => hT w (s_ED w q)) t_ED k_ED n_ED hown hK hI g_E (by decide) rfl 1 (by decide) (hT _ w_72) (fun _ q => q) rfl hnm rfl rfl rfl (Nat.le_of_ble_eq_true rfl) rfl d_ED_init_15 (fun H locs hI => ?_)
  generalize eh_4 : fU h_3 E (4, 0, .inr (2, [.int 0, .ref q_2, .null])) = h_4 at hI
  have hX := hX.set (e := .inr (2, [.int 0, .ref q_2, .null])) g_E (by decide); rw [eh_4] at hX
  have hF := hF.set (e := .inr (2, [.int 0, .ref q_2, .null])) g_E (by decide); rw [eh_4] at hF
  have g_q_2 : h_4 q_2 = some (5, 0, .inl ((G.2.1 4), 10, .inr (.inr (.inr (.inr (fun _ => none)))))) := (congrFun eh_4 q_2).symm.trans (fU_keep g_q_2 (f_neR g_q_2 g_E (by decide)))
  have g_E : h_4 E = some (4, 0, .inr (2, [.int 0, .ref q_2, .null])) := (congrFun eh_4 E).symm.trans (fU_self _ _ _)
  refine lv_aload_n hx hb d_ED_init_18 rfl (lv_at hl 0 rfl) ?_
  refine lv_bipush (v := 10) hx hb d_ED_init_19 (by decide) ?_
  have hzN := hI.2.2.2.1
  refine f_newa (atype := .int) (a0 := (10, .inl (fun _ => 0))) (cA := (G.2.1 0)) hx hb (hT _ w_81) rfl hI (hK.2 0 _ rfl).2 rfl (by decide) rfl (by decide) 6 0 (Nat.le_of_ble_eq_true rfl) (Nat.le_of_ble_eq_true rfl) d_ED_init_21 (fun q_5 H eq_5 zq_5 nq_5 hI => ?_)
  generalize eh_6 : fU h_4 q_5 (6, 0, .inl ((G.2.1 0), 10, .inl (fun _ => 0))) = h_6 at hI
  have hX := hX.new (e := .inl ((G.2.1 0), 10, .inl (fun _ => 0))) (r := 6) (o := 0) nq_5 (by omega); rw [eh_6] at hX
  have hF := hF.new (c := (6, 0, .inl ((G.2.1 0), 10, .inl (fun _ => 0)))) nq_5; rw [eh_6] at hF
  have g_E : h_6 E = some (4, 0, .inr (2, [.int 0, .ref q_2, .null])) := (congrFun eh_6 E).symm.trans (fU_keep g_E (f_neN g_E nq_5))
  have g_q_2 : h_6 q_2 = some (5, 0, .inl ((G.2.1 4), 10, .inr (.inr (.inr (.inr (fun _ => none)))))) := (congrFun eh_6 q_2).symm.trans (fU_keep g_q_2 (f_neN g_q_2 nq_5))
  have g_q_5 : h_6 q_5 = some (6, 0, .inl ((G.2.1 0), 10, .inl (fun _ => 0))) := (congrFun eh_6 q_5).symm.trans (fU_self _ _ _)
  refine f_putF (C := "DutyRules$Editions") (T := T_ED) (N := 3) (fs' := [.int 0, .ref q_2, .ref q_5]) (v := .ref q_5) hx hb (fun w q => hT w (s_ED w q)) t_ED k_ED n_ED hown hK hI g_E (by decide) rfl 2 (by decide) (hT _ w_73) (fun _ q => q) rfl hnm rfl rfl rfl (Nat.le_of_ble_eq_true rfl) rfl d_ED_init_23 (fun H locs hI => ?_)
  generalize eh_7 : fU h_6 E (4, 0, .inr (2, [.int 0, .ref q_2, .ref q_5])) = h_7 at hI
  have hX := hX.set (e := .inr (2, [.int 0, .ref q_2, .ref q_5])) g_E (by decide); rw [eh_7] at hX
  have hF := hF.set (e := .inr (2, [.int 0, .ref q_2, .ref q_5])) g_E (by decide); rw [eh_7] at hF
  have g_q_2 : h_7 q_2 = some (5, 0, .inl ((G.2.1 4), 10, .inr (.inr (.inr (.inr (fun _ => none)))))) := (congrFun eh_7 q_2).symm.trans (fU_keep g_q_2 (f_neR g_q_2 g_E (by decide)))
  have g_q_5 : h_7 q_5 = some (6, 0, .inl ((G.2.1 0), 10, .inl (fun _ => 0))) := (congrFun eh_7 q_5).symm.trans (fU_keep g_q_5 (f_neR g_q_5 g_E (by decide)))
  have g_E : h_7 E = some (4, 0, .inr (2, [.int 0, .ref q_2, .ref q_5])) := (congrFun eh_7 E).symm.trans (fU_self _ _ _)
  exact f_vret C hr hI ⟨⟨q_2, q_5, fun _ => none, g_E, g_q_2, g_q_5, fun i hi => absurd hi (Nat.not_lt_zero i), by decide, fun _ => Nat.zero_le _⟩, hF⟩ hX (Nat.le_of_ble_eq_true rfl) (Nat.le_of_ble_eq_true rfl) d_ED_init_26
theorem gm_ED_add : gM y_ED_add b_ED_add 3 (some .int) 2 := ⟨w_553, w_6, ⟨by decide, by decide⟩, by decide +kernel⟩
set_option maxHeartbeats 4000000 in
set_option maxRecDepth 100000 in
/-- ED_add  -/
theorem c_ED_add_full (l : Launch) (G : gG) (h : fH) (sz : Nat) (E ne : Nat) (ef rr rm : Nat → Nat) (hEd : cEd G h E ne ef rr rm) (R d : Nat) (hc : cR G h R rr rm 10) (bd : d ≤ 100000) (hful : ne = 10) : cM l y_ED_add b_ED_add 3 (some .int) { frames := 0, cells := 0, slots := 0, locals := 0 } G [.ref E, .ref R, .int (nI d)] h sz (cQi G h sz (fun z h' => z = -2 ∧ h' = h)) := by
  refine f_start (by decide) (Nat.le_of_ble_eq_true rfl) ?_
  intro p e s m below meth c ls C hr hsz hI hl
  obtain ⟨hx, hb, hml, hown, hnm, hlk, hT, hG, hZ⟩ := id C
  have hK := hG.1
  have hX : fX h sz h := fX.rf
  have hl : lv_has ls 3 [(0, .ref E), (1, .ref R), (2, .int (nI d))] := hl
  obtain ⟨A5, A6, ge, g_E, g_A5, g_A6, hge, bne, bef⟩ := id hEd
  refine lv_aload_n hx hb d_ED_add_0 rfl (lv_at hl 0 rfl) ?_
  refine f_get (C := "DutyRules$Editions") (T := T_ED) (N := 3) hx hb (fun w q => hT w (s_ED w q)) hown hK hI g_E rfl 0 (by decide) (hT _ w_71) (fun _ q => q) rfl d_ED_add_1 ?_
  refine lv_bipush (v := 10) hx hb d_ED_add_4 (by decide) ?_
  refine lv_icmp_lt (tgt := 12) hx hb d_ED_add_6 (by decide) (fun c_1 => absurd c_1 (fun q => absurd ((n_lt (a := ne) (b := 10) (by omega) (by omega)).mp q) (by omega))) (fun c_1 => ?_)
  refine lv_bipush (v := (-2)) hx hb d_ED_add_9 (by decide) ?_
  exact f_iret C hr hI ⟨rfl, rfl⟩ hX (Nat.le_refl _) (Nat.le_refl _) d_ED_add_11
set_option maxHeartbeats 4000000 in
set_option maxRecDepth 100000 in
/-- ED_add  -/
theorem c_ED_add_ok (l : Launch) (G : gG) (h : fH) (sz : Nat) (E ne : Nat) (ef rr rm : Nat → Nat) (hEd : cEd G h E ne ef rr rm) (R d : Nat) (hc : cR G h R rr rm 10) (bd : d ≤ 100000) (bne2 : ne < 10) : cM l y_ED_add b_ED_add 3 (some .int) { frames := 0, cells := 0, slots := 0, locals := 0 } G [.ref E, .ref R, .int (nI d)] h sz (cQi G h sz (fun z h' => z = nI ne ∧ cEd G h' E (ne + 1) (va_up ef ne d) (cp rr ne 200) (va_up rm ne (rm 10)) ∧ fF (inR [4, 5, 6]) h h')) := by
  refine f_start (by decide) (Nat.le_of_ble_eq_true rfl) ?_
  intro p e s m below meth c ls C hr hsz hI hl
  obtain ⟨hx, hb, hml, hown, hnm, hlk, hT, hG, hZ⟩ := id C
  have hK := hG.1
  have hX : fX h sz h := fX.rf
  have hl : lv_has ls 3 [(0, .ref E), (1, .ref R), (2, .int (nI d))] := hl
  obtain ⟨A5, A6, ge, g_E, g_A5, g_A6, hge, bne, bef⟩ := id hEd
  have hF : fF (inR [4, 5, 6]) h h := fF.rf
  obtain ⟨kf0, nf0, ⟨b1, b2, g_R, _⟩, _⟩ := id hc
  refine lv_aload_n hx hb d_ED_add_0 rfl (lv_at hl 0 rfl) ?_
  refine f_get (C := "DutyRules$Editions") (T := T_ED) (N := 3) hx hb (fun w q => hT w (s_ED w q)) hown hK hI g_E rfl 0 (by decide) (hT _ w_71) (fun _ q => q) rfl d_ED_add_1 ?_
  refine lv_bipush (v := 10) hx hb d_ED_add_4 (by decide) ?_
  refine lv_icmp_lt (tgt := 12) hx hb d_ED_add_6 (by decide) (fun c_1 => ?_) (fun c_1 => absurd ((n_lt (a := ne) (b := 10) (by omega) (by omega)).mpr (by omega)) c_1)
  refine lv_aload_n hx hb d_ED_add_12 rfl (lv_at hl 0 rfl) ?_
  refine f_get (C := "DutyRules$Editions") (T := T_ED) (N := 3) hx hb (fun w q => hT w (s_ED w q)) hown hK hI g_E rfl 1 (by decide) (hT _ w_72) (fun _ q => q) rfl d_ED_add_13 ?_
  refine lv_aload_n hx hb d_ED_add_16 rfl (lv_at hl 0 rfl) ?_
  refine f_get (C := "DutyRules$Editions") (T := T_ED) (N := 3) hx hb (fun w q => hT w (s_ED w q)) hown hK hI g_E rfl 0 (by decide) (hT _ w_71) (fun _ q => q) rfl d_ED_add_17 ?_
  refine lv_aload_n hx hb d_ED_add_20 rfl (lv_at hl 1 rfl) ?_
  refine f_aastn (k := ne) (ci := 6) hx hb hK hI g_A5 (by decide) (t0 := 4) rfl g_R (by decide) rfl (by omega) (by omega) d_ED_add_21 (fun H locs hI => ?_)
  generalize eh_2 : fU h A5 (5, 0, .inl ((G.2.1 4), 10, .inr (.inr (.inr (.inr (va_up ge ne (some R))))))) = h_2 at hI
  have hX := hX.set (e := .inl ((G.2.1 4), 10, .inr (.inr (.inr (.inr (va_up ge ne (some R))))))) g_A5 (by decide); rw [eh_2] at hX
  have hF := hF.set (e := .inl ((G.2.1 4), 10, .inr (.inr (.inr (.inr (va_up ge ne (some R))))))) g_A5 (by decide); rw [eh_2] at hF
  have g_E : h_2 E = some (4, 0, .inr (2, [.int (nI ne), .ref A5, .ref A6])) := (congrFun eh_2 E).symm.trans (fU_keep g_E (f_neR g_E g_A5 (by decide)))
  have g_A6 : h_2 A6 = some (6, 0, .inl ((G.2.1 0), 10, .inl (fun i => nI (ef i)))) := (congrFun eh_2 A6).symm.trans (fU_keep g_A6 (f_neR g_A6 g_A5 (by decide)))
  have g_R : h_2 R = some (7, 0, .inr (6, [.int (nI (rm 10)), .ref b1, .ref b2])) := (congrFun eh_2 R).symm.trans (fU_keep g_R (f_neR g_R g_A5 (by decide)))
  have g_A5 : h_2 A5 = some (5, 0, .inl ((G.2.1 4), 10, .inr (.inr (.inr (.inr (va_up ge ne (some R))))))) := (congrFun eh_2 A5).symm.trans (fU_self _ _ _)
  refine lv_aload_n hx hb d_ED_add_22 rfl (lv_at hl 0 rfl) ?_
  refine f_get (C := "DutyRules$Editions") (T := T_ED) (N := 3) hx hb (fun w q => hT w (s_ED w q)) hown hK hI g_E rfl 2 (by decide) (hT _ w_73) (fun _ q => q) rfl d_ED_add_23 ?_
  refine lv_aload_n hx hb d_ED_add_26 rfl (lv_at hl 0 rfl) ?_
  refine f_get (C := "DutyRules$Editions") (T := T_ED) (N := 3) hx hb (fun w q => hT w (s_ED w q)) hown hK hI g_E rfl 0 (by decide) (hT _ w_71) (fun _ q => q) rfl d_ED_add_27 ?_
  refine lv_iload_n hx hb d_ED_add_30 rfl (lv_at hl 2 rfl) ?_
  refine f_iastn (k := ne) (f' := (fun i => nI (va_up ef ne d i))) hx hb hI g_A6 (by decide) (fT.ofK hK (t0 := 0) rfl) (by omega) (by omega) (up_i ef ne d) d_ED_add_31 (fun H locs hI => ?_)
  generalize eh_3 : fU h_2 A6 (6, 0, .inl ((G.2.1 0), 10, .inl (fun i => nI (va_up ef ne d i)))) = h_3 at hI
  have hX := hX.set (e := .inl ((G.2.1 0), 10, .inl (fun i => nI (va_up ef ne d i)))) g_A6 (by decide); rw [eh_3] at hX
  have hF := hF.set (e := .inl ((G.2.1 0), 10, .inl (fun i => nI (va_up ef ne d i)))) g_A6 (by decide); rw [eh_3] at hF
  have g_E : h_3 E = some (4, 0, .inr (2, [.int (nI ne), .ref A5, .ref A6])) := (congrFun eh_3 E).symm.trans (fU_keep g_E (f_neR g_E g_A6 (by decide)))
  have g_A5 : h_3 A5 = some (5, 0, .inl ((G.2.1 4), 10, .inr (.inr (.inr (.inr (va_up ge ne (some R))))))) := (congrFun eh_3 A5).symm.trans (fU_keep g_A5 (f_neR g_A5 g_A6 (by decide)))
  have g_R : h_3 R = some (7, 0, .inr (6, [.int (nI (rm 10)), .ref b1, .ref b2])) := (congrFun eh_3 R).symm.trans (fU_keep g_R (f_neR g_R g_A6 (by decide)))
  have g_A6 : h_3 A6 = some (6, 0, .inl ((G.2.1 0), 10, .inl (fun i => nI (va_up ef ne d i)))) := (congrFun eh_3 A6).symm.trans (fU_self _ _ _)
  refine lv_aload_n hx hb d_ED_add_32 rfl (lv_at hl 0 rfl) ?_
  refine lv_dup hx hb d_ED_add_33 rfl ?_
  refine f_get (C := "DutyRules$Editions") (T := T_ED) (N := 3) hx hb (fun w q => hT w (s_ED w q)) hown hK hI g_E rfl 0 (by decide) (hT _ w_71) (fun _ q => q) rfl d_ED_add_34 ?_
  refine lv_iconst (v := 1) hx hb d_ED_add_37 (by decide) ?_
  refine lv_iadd hx hb d_ED_add_38 ?_
  refine f_asi (nI_add ne 1) ?_
  refine f_put (C := "DutyRules$Editions") (T := T_ED) (N := 3) (fs' := [.int (nI (ne + 1)), .ref A5, .ref A6]) (v := .int (nI (ne + 1))) hx hb (fun w q => hT w (s_ED w q)) t_ED k_ED n_ED hown hK hI g_E (by decide) rfl 0 (by decide) (hT _ w_71) (fun _ q => q) rfl rfl rfl (Nat.le_of_ble_eq_true rfl) rfl d_ED_add_39 (fun H locs hI => ?_)
  generalize eh_4 : fU h_3 E (4, 0, .inr (2, [.int (nI (ne + 1)), .ref A5, .ref A6])) = h_4 at hI
  have hX := hX.set (e := .inr (2, [.int (nI (ne + 1)), .ref A5, .ref A6])) g_E (by decide); rw [eh_4] at hX
  have hF := hF.set (e := .inr (2, [.int (nI (ne + 1)), .ref A5, .ref A6])) g_E (by decide); rw [eh_4] at hF
  have g_A5 : h_4 A5 = some (5, 0, .inl ((G.2.1 4), 10, .inr (.inr (.inr (.inr (va_up ge ne (some R))))))) := (congrFun eh_4 A5).symm.trans (fU_keep g_A5 (f_neR g_A5 g_E (by decide)))
  have g_A6 : h_4 A6 = some (6, 0, .inl ((G.2.1 0), 10, .inl (fun i => nI (va_up ef ne d i)))) := (congrFun eh_4 A6).symm.trans (fU_keep g_A6 (f_neR g_A6 g_E (by decide)))
  have g_R : h_4 R = some (7, 0, .inr (6, [.int (nI (rm 10)), .ref b1, .ref b2])) := (congrFun eh_4 R).symm.trans (fU_keep g_R (f_neR g_R g_E (by decide)))
  have g_E : h_4 E = some (4, 0, .inr (2, [.int (nI (ne + 1)), .ref A5, .ref A6])) := (congrFun eh_4 E).symm.trans (fU_self _ _ _)
  refine lv_aload_n hx hb d_ED_add_42 rfl (lv_at hl 0 rfl) ?_
  refine f_get (C := "DutyRules$Editions") (T := T_ED) (N := 3) hx hb (fun w q => hT w (s_ED w q)) hown hK hI g_E rfl 0 (by decide) (hT _ w_71) (fun _ q => q) rfl d_ED_add_43 ?_
  refine lv_iconst (v := 1) hx hb d_ED_add_46 (by decide) ?_
  refine lv_isub hx hb d_ED_add_47 ?_
  refine f_asi (pk_sub (a := (ne + 1)) (b := 1) (by omega)) ?_
  exact f_iret C hr hI ⟨congrArg nI (by omega), ⟨A5, A6, _, g_E, g_A5, g_A6, fun i hi => by
      by_cases e9 : i = ne
      · exact ⟨R, by rw [e9, va_up_self], by rw [e9]; exact cR_10 (hc.keepF hF (by decide) (by decide) (by decide)) bne2⟩
      · obtain ⟨R9, q1, q2⟩ := hge i (by omega)
        exact ⟨R9, by rw [va_up_ne _ _ e9]; exact q1, cR_cp (q2.keepF hF (by decide) (by decide) (by decide)) (by omega) e9⟩, by omega, up_le bef bd⟩, hF⟩ hX (Nat.le_refl _) (Nat.le_refl _) d_ED_add_48
theorem gm_ED_heldOn : gM y_ED_heldOn b_ED_heldOn 5 (some (.object "DutyRules$Rules")) 1 := ⟨w_629, w_6, ⟨by decide, by decide⟩, by decide +kernel⟩
set_option maxHeartbeats 4000000 in
set_option maxRecDepth 100000 in
/-- ED_heldOn  -/
theorem c_ED_heldOn (l : Launch) (G : gG) (h : fH) (sz : Nat) (E ne A5 A6 : Nat) (ge : Nat → Option Nat) (ef : Nat → Nat) (day : Nat) (g_E : h E = some (4, 0, .inr (2, [.int (nI ne), .ref A5, .ref A6]))) (g_A5 : h A5 = some (5, 0, .inl (G.2.1 4, 10, .inr (.inr (.inr (.inr ge)))))) (g_A6 : h A6 = some (6, 0, .inl (G.2.1 0, 10, .inl (fun i => nI (ef i))))) (bne : ne ≤ 10) (bef : ∀ i, ef i ≤ 100000) (bday : day ≤ 100000) : cM l y_ED_heldOn b_ED_heldOn 5 (some (.object "DutyRules$Rules")) { frames := 0, cells := 0, slots := 0, locals := 0 } G [.ref E, .int (nI day)] h sz (cQq G h sz (fun z h' => z = (eo ef day ne).bind ge ∧ h' = h)) := by
  refine f_start (by decide) (Nat.le_of_ble_eq_true rfl) ?_
  intro p e s m below meth c ls C hr hsz hI hl
  obtain ⟨hx, hb, hml, hown, hnm, hlk, hT, hG, hZ⟩ := id C
  have hK := hG.1
  have hX : fX h sz h := fX.rf
  have hl : lv_has ls 5 [(0, .ref E), (1, .int (nI day))] := hl
  obtain ⟨efn, hefn⟩ : ∃ f, f = efo ef := ⟨_, rfl⟩
  have hefo : ∀ x, efn x ≤ 100000 := fun x => by rw [hefn]; cases x with | none => exact Nat.zero_le _ | some b => exact bef b
  have hC2 : ∀ n x, eoC ef day n x = true ↔ ef n ≤ day ∧ efn x ≤ ef n := fun n x => by rw [hefn]; exact eoC_n x
  have hz2 : efn none = 0 := by rw [hefn]; rfl
  have J7 : ∀ (k n : Nat), n + k = ne → ∀ (H : Heap) (locs : List Loc), fI G.1 g_cl (fA h sz) s.heap h H locs → ∀ ls : Array Slot, lv_has ls 5 [(0, .ref E), (1, .int (nI day)), (2, va_rf ((eo ef day n).bind ge)), (3, .int (nI (efn (eo ef day n)))), (4, .int (nI n))] → W p l e { frames := 0, cells := 0, slots := 0, locals := 0 } s m ([.ref E, .int (nI day)] : List Value).toArray below meth c H locs 0 0 (MQ below (cQq G h sz (fun z h' => z = (eo ef day ne).bind ge ∧ h' = h)) ([.ref E, .int (nI day)] : List Value).toArray s 0 0 (fA h sz)) (F0 m 7 ls []) := by
    intro k
    induction k with
    | zero =>
      intro n hn H locs hI ls hl
      refine lv_iload hx hb d_ED_heldOn_7 (lv_at hl 4 rfl) ?_
      refine lv_aload_n hx hb d_ED_heldOn_9 rfl (lv_at hl 0 rfl) ?_
      refine f_get (C := "DutyRules$Editions") (T := T_ED) (N := 3) hx hb (fun w q => hT w (s_ED w q)) hown hK hI g_E rfl 0 (by decide) (hT _ w_71) (fun _ q => q) rfl d_ED_heldOn_10 ?_
      refine lv_icmp_ge (tgt := 60) hx hb d_ED_heldOn_13 (by decide) (fun c_1 => ?_) (fun c_1 => absurd ((n_le (a := ne) (b := n) (by omega) (by omega)).mpr (by omega)) c_1)
      refine f_aload_nq hx hb d_ED_heldOn_60 rfl (lv_at hl 2 rfl) ?_
      exact f_aret (v := ((eo ef day n).bind ge)) C hr (Or.inl ⟨_, rfl⟩) hI ⟨by rw [show n = ne by omega], rfl⟩ hX (Nat.le_refl _) (Nat.le_refl _) d_ED_heldOn_61
    | succ k ih =>
      intro n hn H locs hI ls hl
      have ih : ∀ n : Nat, n + k = ne → ∀ (H : Heap) (locs : List Loc), fI G.1 g_cl (fA h sz) s.heap h H locs → ∀ ls : Array Slot, lv_has ls 5 [(0, .ref E), (1, .int (nI day)), (2, va_rf ((eo ef day n).bind ge)), (3, .int (nI (efn (eo ef day n)))), (4, .int (nI n))] → W p l e { frames := 0, cells := 0, slots := 0, locals := 0 } s m ([.ref E, .int (nI day)] : List Value).toArray below meth c H locs 0 0 (MQ below (cQq G h sz (fun z h' => z = (eo ef day ne).bind ge ∧ h' = h)) ([.ref E, .int (nI day)] : List Value).toArray s 0 0 (fA h sz)) (F0 m 7 ls []) := ih
      refine lv_iload hx hb d_ED_heldOn_7 (lv_at hl 4 rfl) ?_
      refine lv_aload_n hx hb d_ED_heldOn_9 rfl (lv_at hl 0 rfl) ?_
      refine f_get (C := "DutyRules$Editions") (T := T_ED) (N := 3) hx hb (fun w q => hT w (s_ED w q)) hown hK hI g_E rfl 0 (by decide) (hT _ w_71) (fun _ q => q) rfl d_ED_heldOn_10 ?_
      refine lv_icmp_ge (tgt := 60) hx hb d_ED_heldOn_13 (by decide) (fun c_2 => absurd c_2 (fun q => absurd ((n_le (a := ne) (b := n) (by omega) (by omega)).mp q) (by omega))) (fun c_2 => ?_)
      refine lv_aload_n hx hb d_ED_heldOn_16 rfl (lv_at hl 0 rfl) ?_
      refine f_get (C := "DutyRules$Editions") (T := T_ED) (N := 3) hx hb (fun w q => hT w (s_ED w q)) hown hK hI g_E rfl 2 (by decide) (hT _ w_73) (fun _ q => q) rfl d_ED_heldOn_17 ?_
      refine lv_iload hx hb d_ED_heldOn_20 (lv_at hl 4 rfl) ?_
      refine f_ialdn (k := n) (v := (nI (ef n))) hx hb hI g_A6 (fT.ofK hK (t0 := 0) rfl) (by omega) (by omega) rfl d_ED_heldOn_22 ?_
      refine lv_iload_n hx hb d_ED_heldOn_23 rfl (lv_at hl 1 rfl) ?_
      refine lv_icmp_gt (tgt := 54) hx hb d_ED_heldOn_24 (by decide) (fun c_3 => ?_) (fun c_3 => ?_)
      · have c_3 : day < (ef n) := (n_lt (a := day) (b := (ef n)) (by omega) (by have := bef n; omega)).mp c_3
        refine lv_iinc (v := nI (n + 1)) (lv' := [(4, .int (nI (n + 1))), (0, .ref E), (1, .int (nI day)), (2, va_rf ((eo ef day n).bind ge)), (3, .int (nI (efn (eo ef day n))))]) hx hb d_ED_heldOn_54 hl (k := 4) rfl (f_inc1 _) (by decide) rfl (fun ls hl => ?_)
        refine lv_goto (tgt := 7) hx hb d_ED_heldOn_57 (by decide) ?_
        refine ih (n + 1) (by omega) _ _ hI ls ?_
        rw [eo_no (fun q => by have q2 := (hC2 _ _).mp q; omega)]
        exact lv_sub hl [1, 2, 3, 4, 0] rfl
      · have c_3 : ¬ day < (ef n) := fun q => c_3 ((n_lt (a := day) (b := (ef n)) (by omega) (by have := bef n; omega)).mpr q)
        refine lv_aload_n hx hb d_ED_heldOn_27 rfl (lv_at hl 0 rfl) ?_
        refine f_get (C := "DutyRules$Editions") (T := T_ED) (N := 3) hx hb (fun w q => hT w (s_ED w q)) hown hK hI g_E rfl 2 (by decide) (hT _ w_73) (fun _ q => q) rfl d_ED_heldOn_28 ?_
        refine lv_iload hx hb d_ED_heldOn_31 (lv_at hl 4 rfl) ?_
        refine f_ialdn (k := n) (v := (nI (ef n))) hx hb hI g_A6 (fT.ofK hK (t0 := 0) rfl) (by omega) (by omega) rfl d_ED_heldOn_33 ?_
        refine lv_iload_n hx hb d_ED_heldOn_34 rfl (lv_at hl 3 rfl) ?_
        refine lv_icmp_lt (tgt := 54) hx hb d_ED_heldOn_35 (by decide) (fun c_4 => ?_) (fun c_4 => ?_)
        · have c_4 : (ef n) < (efn (eo ef day n)) := (n_lt (a := (ef n)) (b := (efn (eo ef day n))) (by have := bef n; omega) (by have := bef day; have := hefo (eo ef day n); omega)).mp c_4
          refine lv_iinc (v := nI (n + 1)) (lv' := [(4, .int (nI (n + 1))), (0, .ref E), (1, .int (nI day)), (2, va_rf ((eo ef day n).bind ge)), (3, .int (nI (efn (eo ef day n))))]) hx hb d_ED_heldOn_54 hl (k := 4) rfl (f_inc1 _) (by decide) rfl (fun ls hl => ?_)
          refine lv_goto (tgt := 7) hx hb d_ED_heldOn_57 (by decide) ?_
          refine ih (n + 1) (by omega) _ _ hI ls ?_
          rw [eo_no (fun q => by have q2 := (hC2 _ _).mp q; omega)]
          exact lv_sub hl [1, 2, 3, 4, 0] rfl
        · have c_4 : ¬ (ef n) < (efn (eo ef day n)) := fun q => c_4 ((n_lt (a := (ef n)) (b := (efn (eo ef day n))) (by have := bef n; omega) (by have := bef day; have := hefo (eo ef day n); omega)).mpr q)
          refine lv_aload_n hx hb d_ED_heldOn_38 rfl (lv_at hl 0 rfl) ?_
          refine f_get (C := "DutyRules$Editions") (T := T_ED) (N := 3) hx hb (fun w q => hT w (s_ED w q)) hown hK hI g_E rfl 1 (by decide) (hT _ w_72) (fun _ q => q) rfl d_ED_heldOn_39 ?_
          refine lv_iload hx hb d_ED_heldOn_42 (lv_at hl 4 rfl) ?_
          refine f_aaldn (k := n) (v := (ge n)) hx hb hI g_A5 (fT.ofK hK (t0 := 4) rfl) (by omega) (by omega) rfl d_ED_heldOn_44 ?_
          refine f_astore_nq (lv' := [(2, va_rf (ge n)), (0, .ref E), (1, .int (nI day)), (3, .int (nI (efn (eo ef day n)))), (4, .int (nI n))]) hx hb d_ED_heldOn_45 rfl hl (by decide) rfl (fun ls hl => ?_)
          refine lv_aload_n hx hb d_ED_heldOn_46 rfl (lv_at hl 1 rfl) ?_
          refine f_get (C := "DutyRules$Editions") (T := T_ED) (N := 3) hx hb (fun w q => hT w (s_ED w q)) hown hK hI g_E rfl 2 (by decide) (hT _ w_73) (fun _ q => q) rfl d_ED_heldOn_47 ?_
          refine lv_iload hx hb d_ED_heldOn_50 (lv_at hl 4 rfl) ?_
          refine f_ialdn (k := n) (v := (nI (ef n))) hx hb hI g_A6 (fT.ofK hK (t0 := 0) rfl) (by omega) (by omega) rfl d_ED_heldOn_52 ?_
          refine lv_istore_n (lv' := [(3, .int (nI (ef n))), (2, va_rf (ge n)), (0, .ref E), (1, .int (nI day)), (4, .int (nI n))]) hx hb d_ED_heldOn_53 rfl hl (by decide) (by generalize (ge n) = o9; cases o9 <;> rfl) (fun ls hl => ?_)
          refine lv_iinc (v := nI (n + 1)) (lv' := [(4, .int (nI (n + 1))), (3, .int (nI (ef n))), (2, va_rf (ge n)), (0, .ref E), (1, .int (nI day))]) hx hb d_ED_heldOn_54 hl (k := 4) rfl (f_inc1 _) (by decide) rfl (fun ls hl => ?_)
          refine lv_goto (tgt := 7) hx hb d_ED_heldOn_57 (by decide) ?_
          refine ih (n + 1) (by omega) _ _ hI ls ?_
          rw [eo_yes ((hC2 _ _).mpr ⟨by omega, by omega⟩), hefn]
          exact lv_sub hl [3, 4, 2, 1, 0] rfl
  refine lv_null hx hb d_ED_heldOn_0 ?_
  refine lv_astore_nN (lv' := [(2, .null), (0, .ref E), (1, .int (nI day))]) hx hb d_ED_heldOn_1 rfl hl (by decide) rfl (fun ls hl => ?_)
  refine lv_iconst (v := 0) hx hb d_ED_heldOn_2 (by decide) ?_
  refine lv_istore_n (lv' := [(3, .int 0), (2, .null), (0, .ref E), (1, .int (nI day))]) hx hb d_ED_heldOn_3 rfl hl (by decide) rfl (fun ls hl => ?_)
  refine lv_iconst (v := 0) hx hb d_ED_heldOn_4 (by decide) ?_
  refine lv_istore (lv' := [(4, .int 0), (3, .int 0), (2, .null), (0, .ref E), (1, .int (nI day))]) hx hb d_ED_heldOn_5 hl (by decide) rfl (fun ls hl => ?_)
  refine J7 ne 0 (by omega) _ _ hI ls ?_
  rw [hefn]
  exact lv_sub hl [3, 4, 2, 1, 0] rfl
theorem gm_DU_init : gM y_DU_init b_DU_init 1 none 0 := ⟨w_105, w_8, ⟨by decide, by decide⟩, by decide +kernel⟩
set_option maxHeartbeats 4000000 in
set_option maxRecDepth 100000 in
/-- DU_init  -/
theorem c_DU_init (l : Launch) (G : gG) (h : fH) (sz : Nat) (X ow : Nat) (g_X : h X = some (13, ow, .inr (1, [.int 0, .int 0, .int 0, .long 0, .long 0, .null, .null, .null, .null]))) : cM l y_DU_init b_DU_init 1 none { frames := 1, cells := 4, slots := 21, locals := 20 } G [.ref X] h sz (cQv G h sz (fun h' => cDu G h' X ow (-1) (-1) (fun _ => 0) d0 ∧ fF (inD ow) h h')) := by
  refine f_start (by decide) (Nat.le_of_ble_eq_true rfl) ?_
  intro p e s m below meth c ls C hr hsz hI hl
  obtain ⟨hx, hb, hml, hown, hnm, hlk, hT, hG, hZ⟩ := id C
  have hK := hG.1
  have hX : fX h sz h := fX.rf
  have hl : lv_has ls 1 [(0, .ref X)] := hl
  have hF : fF (inD ow) h h := fF.rf
  refine lv_aload_n hx hb d_DU_init_0 rfl (lv_at hl 0 rfl) ?_
  refine W.objInit hx hb hown (hT _ w_106) (hT _ w_28) (hT _ w_29) rfl (by rw [hml]; exact hl.1) rfl d_DU_init_1 (Nat.le_of_ble_eq_true rfl) (Nat.le_of_ble_eq_true rfl) ?_
  refine W.eq (g2 := F0 m 4 ls []) rfl ?_
  refine lv_aload_n hx hb d_DU_init_4 rfl (lv_at hl 0 rfl) ?_
  refine lv_iconst (v := (-1)) hx hb d_DU_init_5 (by decide) ?_
  refine f_put (C := "DutyRules$Duty") (T := T_DU) (N := 9) (fs' := [.int (-1), .int 0, .int 0, .long 0, .long 0, .null, .null, .null, .null]) (v := .int (-1)) hx hb (fun w q => hT w (s_DU w q)) t_DU k_DU n_DU hown hK hI g_X (by decide) rfl 0 (by decide) (hT _ w_107) (fun _ q => q) rfl rfl rfl (Nat.le_of_ble_eq_true rfl) rfl d_DU_init_6 (fun H locs hI => ?_)
  generalize eh_1 : fU h X (13, ow, .inr (1, [.int (-1), .int 0, .int 0, .long 0, .long 0, .null, .null, .null, .null])) = h_1 at hI
  have hX := hX.set (e := .inr (1, [.int (-1), .int 0, .int 0, .long 0, .long 0, .null, .null, .null, .null])) g_X (by decide); rw [eh_1] at hX
  have hF := hF.set (e := .inr (1, [.int (-1), .int 0, .int 0, .long 0, .long 0, .null, .null, .null, .null])) g_X ⟨by decide, by decide, rfl⟩; rw [eh_1] at hF
  have g_X : h_1 X = some (13, ow, .inr (1, [.int (-1), .int 0, .int 0, .long 0, .long 0, .null, .null, .null, .null])) := (congrFun eh_1 X).symm.trans (fU_self _ _ _)
  refine lv_aload_n hx hb d_DU_init_9 rfl (lv_at hl 0 rfl) ?_
  refine lv_iconst (v := (-1)) hx hb d_DU_init_10 (by decide) ?_
  refine f_put (C := "DutyRules$Duty") (T := T_DU) (N := 9) (fs' := [.int (-1), .int (-1), .int 0, .long 0, .long 0, .null, .null, .null, .null]) (v := .int (-1)) hx hb (fun w q => hT w (s_DU w q)) t_DU k_DU n_DU hown hK hI g_X (by decide) rfl 1 (by decide) (hT _ w_109) (fun _ q => q) rfl rfl rfl (Nat.le_of_ble_eq_true rfl) rfl d_DU_init_11 (fun H locs hI => ?_)
  generalize eh_2 : fU h_1 X (13, ow, .inr (1, [.int (-1), .int (-1), .int 0, .long 0, .long 0, .null, .null, .null, .null])) = h_2 at hI
  have hX := hX.set (e := .inr (1, [.int (-1), .int (-1), .int 0, .long 0, .long 0, .null, .null, .null, .null])) g_X (by decide); rw [eh_2] at hX
  have hF := hF.set (e := .inr (1, [.int (-1), .int (-1), .int 0, .long 0, .long 0, .null, .null, .null, .null])) g_X ⟨by decide, by decide, rfl⟩; rw [eh_2] at hF
  have g_X : h_2 X = some (13, ow, .inr (1, [.int (-1), .int (-1), .int 0, .long 0, .long 0, .null, .null, .null, .null])) := (congrFun eh_2 X).symm.trans (fU_self _ _ _)
  refine lv_aload_n hx hb d_DU_init_14 rfl (lv_at hl 0 rfl) ?_
  refine lv_iconst (v := 0) hx hb d_DU_init_15 (by decide) ?_
  refine f_put (C := "DutyRules$Duty") (T := T_DU) (N := 9) (fs' := [.int (-1), .int (-1), .int 0, .long 0, .long 0, .null, .null, .null, .null]) (v := .int 0) hx hb (fun w q => hT w (s_DU w q)) t_DU k_DU n_DU hown hK hI g_X (by decide) rfl 2 (by decide) (hT _ w_111) (fun _ q => q) rfl rfl rfl (Nat.le_of_ble_eq_true rfl) rfl d_DU_init_16 (fun H locs hI => ?_)
  generalize eh_3 : fU h_2 X (13, ow, .inr (1, [.int (-1), .int (-1), .int 0, .long 0, .long 0, .null, .null, .null, .null])) = h_3 at hI
  have hX := hX.set (e := .inr (1, [.int (-1), .int (-1), .int 0, .long 0, .long 0, .null, .null, .null, .null])) g_X (by decide); rw [eh_3] at hX
  have hF := hF.set (e := .inr (1, [.int (-1), .int (-1), .int 0, .long 0, .long 0, .null, .null, .null, .null])) g_X ⟨by decide, by decide, rfl⟩; rw [eh_3] at hF
  have g_X : h_3 X = some (13, ow, .inr (1, [.int (-1), .int (-1), .int 0, .long 0, .long 0, .null, .null, .null, .null])) := (congrFun eh_3 X).symm.trans (fU_self _ _ _)
  refine lv_aload_n hx hb d_DU_init_19 rfl (lv_at hl 0 rfl) ?_
  refine lv_lconst (v := 0) hx hb d_DU_init_20 (by decide) ?_
  refine f_put (C := "DutyRules$Duty") (T := T_DU) (N := 9) (fs' := [.int (-1), .int (-1), .int 0, .long 0, .long 0, .null, .null, .null, .null]) (v := .long 0) hx hb (fun w q => hT w (s_DU w q)) t_DU k_DU n_DU hown hK hI g_X (by decide) rfl 3 (by decide) (hT _ w_113) (fun _ q => q) rfl rfl rfl (Nat.le_of_ble_eq_true rfl) rfl d_DU_init_21 (fun H locs hI => ?_)
  generalize eh_4 : fU h_3 X (13, ow, .inr (1, [.int (-1), .int (-1), .int 0, .long 0, .long 0, .null, .null, .null, .null])) = h_4 at hI
  have hX := hX.set (e := .inr (1, [.int (-1), .int (-1), .int 0, .long 0, .long 0, .null, .null, .null, .null])) g_X (by decide); rw [eh_4] at hX
  have hF := hF.set (e := .inr (1, [.int (-1), .int (-1), .int 0, .long 0, .long 0, .null, .null, .null, .null])) g_X ⟨by decide, by decide, rfl⟩; rw [eh_4] at hF
  have g_X : h_4 X = some (13, ow, .inr (1, [.int (-1), .int (-1), .int 0, .long 0, .long 0, .null, .null, .null, .null])) := (congrFun eh_4 X).symm.trans (fU_self _ _ _)
  refine lv_aload_n hx hb d_DU_init_24 rfl (lv_at hl 0 rfl) ?_
  refine lv_lconst (v := 0) hx hb d_DU_init_25 (by decide) ?_
  refine f_put (C := "DutyRules$Duty") (T := T_DU) (N := 9) (fs' := [.int (-1), .int (-1), .int 0, .long 0, .long 0, .null, .null, .null, .null]) (v := .long 0) hx hb (fun w q => hT w (s_DU w q)) t_DU k_DU n_DU hown hK hI g_X (by decide) rfl 4 (by decide) (hT _ w_115) (fun _ q => q) rfl rfl rfl (Nat.le_of_ble_eq_true rfl) rfl d_DU_init_26 (fun H locs hI => ?_)
  generalize eh_5 : fU h_4 X (13, ow, .inr (1, [.int (-1), .int (-1), .int 0, .long 0, .long 0, .null, .null, .null, .null])) = h_5 at hI
  have hX := hX.set (e := .inr (1, [.int (-1), .int (-1), .int 0, .long 0, .long 0, .null, .null, .null, .null])) g_X (by decide); rw [eh_5] at hX
  have hF := hF.set (e := .inr (1, [.int (-1), .int (-1), .int 0, .long 0, .long 0, .null, .null, .null, .null])) g_X ⟨by decide, by decide, rfl⟩; rw [eh_5] at hF
  have g_X : h_5 X = some (13, ow, .inr (1, [.int (-1), .int (-1), .int 0, .long 0, .long 0, .null, .null, .null, .null])) := (congrFun eh_5 X).symm.trans (fU_self _ _ _)
  refine lv_aload_n hx hb d_DU_init_29 rfl (lv_at hl 0 rfl) ?_
  refine lv_bipush (v := 6) hx hb d_DU_init_30 (by decide) ?_
  have hzN := hI.2.2.2.1
  refine f_newa (atype := .int) (a0 := (6, .inl (fun _ => 0))) (cA := (G.2.1 0)) hx hb (hT _ w_81) rfl hI (hK.2 0 _ rfl).2 rfl (by decide) rfl (by decide) 14 ow (Nat.le_of_ble_eq_true rfl) (Nat.le_of_ble_eq_true rfl) d_DU_init_32 (fun q_6 H eq_6 zq_6 nq_6 hI => ?_)
  generalize eh_7 : fU h_5 q_6 (14, ow, .inl ((G.2.1 0), 6, .inl (fun _ => 0))) = h_7 at hI
  have hX := hX.new (e := .inl ((G.2.1 0), 6, .inl (fun _ => 0))) (r := 14) (o := ow) nq_6 (by omega); rw [eh_7] at hX
  have hF := hF.new (c := (14, ow, .inl ((G.2.1 0), 6, .inl (fun _ => 0)))) nq_6; rw [eh_7] at hF
  have g_X : h_7 X = some (13, ow, .inr (1, [.int (-1), .int (-1), .int 0, .long 0, .long 0, .null, .null, .null, .null])) := (congrFun eh_7 X).symm.trans (fU_keep g_X (f_neN g_X nq_6))
  have g_q_6 : h_7 q_6 = some (14, ow, .inl ((G.2.1 0), 6, .inl (fun _ => 0))) := (congrFun eh_7 q_6).symm.trans (fU_self _ _ _)
  refine f_putF (C := "DutyRules$Duty") (T := T_DU) (N := 9) (fs' := [.int (-1), .int (-1), .int 0, .long 0, .long 0, .ref q_6, .null, .null, .null]) (v := .ref q_6) hx hb (fun w q => hT w (s_DU w q)) t_DU k_DU n_DU hown hK hI g_X (by decide) rfl 5 (by decide) (hT _ w_117) (fun _ q => q) rfl hnm rfl rfl rfl (Nat.le_of_ble_eq_true rfl) rfl d_DU_init_34 (fun H locs hI => ?_)
  generalize eh_8 : fU h_7 X (13, ow, .inr (1, [.int (-1), .int (-1), .int 0, .long 0, .long 0, .ref q_6, .null, .null, .null])) = h_8 at hI
  have hX := hX.set (e := .inr (1, [.int (-1), .int (-1), .int 0, .long 0, .long 0, .ref q_6, .null, .null, .null])) g_X (by decide); rw [eh_8] at hX
  have hF := hF.set (e := .inr (1, [.int (-1), .int (-1), .int 0, .long 0, .long 0, .ref q_6, .null, .null, .null])) g_X ⟨by decide, by decide, rfl⟩; rw [eh_8] at hF
  have g_q_6 : h_8 q_6 = some (14, ow, .inl ((G.2.1 0), 6, .inl (fun _ => 0))) := (congrFun eh_8 q_6).symm.trans (fU_keep g_q_6 (f_neR g_q_6 g_X (by decide)))
  have g_X : h_8 X = some (13, ow, .inr (1, [.int (-1), .int (-1), .int 0, .long 0, .long 0, .ref q_6, .null, .null, .null])) := (congrFun eh_8 X).symm.trans (fU_self _ _ _)
  refine lv_aload_n hx hb d_DU_init_37 rfl (lv_at hl 0 rfl) ?_
  refine lv_iconst (v := 5) hx hb d_DU_init_38 (by decide) ?_
  have hzN := hI.2.2.2.1
  refine f_newa (atype := .int) (a0 := (5, .inl (fun _ => 0))) (cA := (G.2.1 0)) hx hb (hT _ w_81) rfl hI (hK.2 0 _ rfl).2 rfl (by decide) rfl (by decide) 15 ow (Nat.le_of_ble_eq_true rfl) (Nat.le_of_ble_eq_true rfl) d_DU_init_39 (fun q_9 H eq_9 zq_9 nq_9 hI => ?_)
  generalize eh_10 : fU h_8 q_9 (15, ow, .inl ((G.2.1 0), 5, .inl (fun _ => 0))) = h_10 at hI
  have hX := hX.new (e := .inl ((G.2.1 0), 5, .inl (fun _ => 0))) (r := 15) (o := ow) nq_9 (by omega); rw [eh_10] at hX
  have hF := hF.new (c := (15, ow, .inl ((G.2.1 0), 5, .inl (fun _ => 0)))) nq_9; rw [eh_10] at hF
  have g_X : h_10 X = some (13, ow, .inr (1, [.int (-1), .int (-1), .int 0, .long 0, .long 0, .ref q_6, .null, .null, .null])) := (congrFun eh_10 X).symm.trans (fU_keep g_X (f_neN g_X nq_9))
  have g_q_6 : h_10 q_6 = some (14, ow, .inl ((G.2.1 0), 6, .inl (fun _ => 0))) := (congrFun eh_10 q_6).symm.trans (fU_keep g_q_6 (f_neN g_q_6 nq_9))
  have g_q_9 : h_10 q_9 = some (15, ow, .inl ((G.2.1 0), 5, .inl (fun _ => 0))) := (congrFun eh_10 q_9).symm.trans (fU_self _ _ _)
  refine f_putF (C := "DutyRules$Duty") (T := T_DU) (N := 9) (fs' := [.int (-1), .int (-1), .int 0, .long 0, .long 0, .ref q_6, .ref q_9, .null, .null]) (v := .ref q_9) hx hb (fun w q => hT w (s_DU w q)) t_DU k_DU n_DU hown hK hI g_X (by decide) rfl 6 (by decide) (hT _ w_118) (fun _ q => q) rfl hnm rfl rfl rfl (Nat.le_of_ble_eq_true rfl) rfl d_DU_init_41 (fun H locs hI => ?_)
  generalize eh_11 : fU h_10 X (13, ow, .inr (1, [.int (-1), .int (-1), .int 0, .long 0, .long 0, .ref q_6, .ref q_9, .null, .null])) = h_11 at hI
  have hX := hX.set (e := .inr (1, [.int (-1), .int (-1), .int 0, .long 0, .long 0, .ref q_6, .ref q_9, .null, .null])) g_X (by decide); rw [eh_11] at hX
  have hF := hF.set (e := .inr (1, [.int (-1), .int (-1), .int 0, .long 0, .long 0, .ref q_6, .ref q_9, .null, .null])) g_X ⟨by decide, by decide, rfl⟩; rw [eh_11] at hF
  have g_q_6 : h_11 q_6 = some (14, ow, .inl ((G.2.1 0), 6, .inl (fun _ => 0))) := (congrFun eh_11 q_6).symm.trans (fU_keep g_q_6 (f_neR g_q_6 g_X (by decide)))
  have g_q_9 : h_11 q_9 = some (15, ow, .inl ((G.2.1 0), 5, .inl (fun _ => 0))) := (congrFun eh_11 q_9).symm.trans (fU_keep g_q_9 (f_neR g_q_9 g_X (by decide)))
  have g_X : h_11 X = some (13, ow, .inr (1, [.int (-1), .int (-1), .int 0, .long 0, .long 0, .ref q_6, .ref q_9, .null, .null])) := (congrFun eh_11 X).symm.trans (fU_self _ _ _)
  refine lv_aload_n hx hb d_DU_init_44 rfl (lv_at hl 0 rfl) ?_
  refine lv_iconst (v := 5) hx hb d_DU_init_45 (by decide) ?_
  have hzN := hI.2.2.2.1
  refine f_newa (atype := .int) (a0 := (5, .inl (fun _ => 0))) (cA := (G.2.1 0)) hx hb (hT _ w_81) rfl hI (hK.2 0 _ rfl).2 rfl (by decide) rfl (by decide) 16 ow (Nat.le_of_ble_eq_true rfl) (Nat.le_of_ble_eq_true rfl) d_DU_init_46 (fun q_12 H eq_12 zq_12 nq_12 hI => ?_)
  generalize eh_13 : fU h_11 q_12 (16, ow, .inl ((G.2.1 0), 5, .inl (fun _ => 0))) = h_13 at hI
  have hX := hX.new (e := .inl ((G.2.1 0), 5, .inl (fun _ => 0))) (r := 16) (o := ow) nq_12 (by omega); rw [eh_13] at hX
  have hF := hF.new (c := (16, ow, .inl ((G.2.1 0), 5, .inl (fun _ => 0)))) nq_12; rw [eh_13] at hF
  have g_X : h_13 X = some (13, ow, .inr (1, [.int (-1), .int (-1), .int 0, .long 0, .long 0, .ref q_6, .ref q_9, .null, .null])) := (congrFun eh_13 X).symm.trans (fU_keep g_X (f_neN g_X nq_12))
  have g_q_6 : h_13 q_6 = some (14, ow, .inl ((G.2.1 0), 6, .inl (fun _ => 0))) := (congrFun eh_13 q_6).symm.trans (fU_keep g_q_6 (f_neN g_q_6 nq_12))
  have g_q_9 : h_13 q_9 = some (15, ow, .inl ((G.2.1 0), 5, .inl (fun _ => 0))) := (congrFun eh_13 q_9).symm.trans (fU_keep g_q_9 (f_neN g_q_9 nq_12))
  have g_q_12 : h_13 q_12 = some (16, ow, .inl ((G.2.1 0), 5, .inl (fun _ => 0))) := (congrFun eh_13 q_12).symm.trans (fU_self _ _ _)
  refine f_putF (C := "DutyRules$Duty") (T := T_DU) (N := 9) (fs' := [.int (-1), .int (-1), .int 0, .long 0, .long 0, .ref q_6, .ref q_9, .ref q_12, .null]) (v := .ref q_12) hx hb (fun w q => hT w (s_DU w q)) t_DU k_DU n_DU hown hK hI g_X (by decide) rfl 7 (by decide) (hT _ w_120) (fun _ q => q) rfl hnm rfl rfl rfl (Nat.le_of_ble_eq_true rfl) rfl d_DU_init_48 (fun H locs hI => ?_)
  generalize eh_14 : fU h_13 X (13, ow, .inr (1, [.int (-1), .int (-1), .int 0, .long 0, .long 0, .ref q_6, .ref q_9, .ref q_12, .null])) = h_14 at hI
  have hX := hX.set (e := .inr (1, [.int (-1), .int (-1), .int 0, .long 0, .long 0, .ref q_6, .ref q_9, .ref q_12, .null])) g_X (by decide); rw [eh_14] at hX
  have hF := hF.set (e := .inr (1, [.int (-1), .int (-1), .int 0, .long 0, .long 0, .ref q_6, .ref q_9, .ref q_12, .null])) g_X ⟨by decide, by decide, rfl⟩; rw [eh_14] at hF
  have g_q_6 : h_14 q_6 = some (14, ow, .inl ((G.2.1 0), 6, .inl (fun _ => 0))) := (congrFun eh_14 q_6).symm.trans (fU_keep g_q_6 (f_neR g_q_6 g_X (by decide)))
  have g_q_9 : h_14 q_9 = some (15, ow, .inl ((G.2.1 0), 5, .inl (fun _ => 0))) := (congrFun eh_14 q_9).symm.trans (fU_keep g_q_9 (f_neR g_q_9 g_X (by decide)))
  have g_q_12 : h_14 q_12 = some (16, ow, .inl ((G.2.1 0), 5, .inl (fun _ => 0))) := (congrFun eh_14 q_12).symm.trans (fU_keep g_q_12 (f_neR g_q_12 g_X (by decide)))
  have g_X : h_14 X = some (13, ow, .inr (1, [.int (-1), .int (-1), .int 0, .long 0, .long 0, .ref q_6, .ref q_9, .ref q_12, .null])) := (congrFun eh_14 X).symm.trans (fU_self _ _ _)
  refine lv_aload_n hx hb d_DU_init_51 rfl (lv_at hl 0 rfl) ?_
  refine lv_iconst (v := 5) hx hb d_DU_init_52 (by decide) ?_
  have hzN := hI.2.2.2.1
  refine f_newa (atype := .long) (a0 := (5, .inr (.inl (fun _ => 0)))) (cA := (G.2.1 1)) hx hb (hT _ w_143) rfl hI (hK.2 1 _ rfl).2 rfl (by decide) rfl (by decide) 17 ow (Nat.le_of_ble_eq_true rfl) (Nat.le_of_ble_eq_true rfl) d_DU_init_53 (fun q_15 H eq_15 zq_15 nq_15 hI => ?_)
  generalize eh_16 : fU h_14 q_15 (17, ow, .inl ((G.2.1 1), 5, .inr (.inl (fun _ => 0)))) = h_16 at hI
  have hX := hX.new (e := .inl ((G.2.1 1), 5, .inr (.inl (fun _ => 0)))) (r := 17) (o := ow) nq_15 (by omega); rw [eh_16] at hX
  have hF := hF.new (c := (17, ow, .inl ((G.2.1 1), 5, .inr (.inl (fun _ => 0))))) nq_15; rw [eh_16] at hF
  have g_X : h_16 X = some (13, ow, .inr (1, [.int (-1), .int (-1), .int 0, .long 0, .long 0, .ref q_6, .ref q_9, .ref q_12, .null])) := (congrFun eh_16 X).symm.trans (fU_keep g_X (f_neN g_X nq_15))
  have g_q_6 : h_16 q_6 = some (14, ow, .inl ((G.2.1 0), 6, .inl (fun _ => 0))) := (congrFun eh_16 q_6).symm.trans (fU_keep g_q_6 (f_neN g_q_6 nq_15))
  have g_q_9 : h_16 q_9 = some (15, ow, .inl ((G.2.1 0), 5, .inl (fun _ => 0))) := (congrFun eh_16 q_9).symm.trans (fU_keep g_q_9 (f_neN g_q_9 nq_15))
  have g_q_12 : h_16 q_12 = some (16, ow, .inl ((G.2.1 0), 5, .inl (fun _ => 0))) := (congrFun eh_16 q_12).symm.trans (fU_keep g_q_12 (f_neN g_q_12 nq_15))
  have g_q_15 : h_16 q_15 = some (17, ow, .inl ((G.2.1 1), 5, .inr (.inl (fun _ => 0)))) := (congrFun eh_16 q_15).symm.trans (fU_self _ _ _)
  refine f_putF (C := "DutyRules$Duty") (T := T_DU) (N := 9) (fs' := [.int (-1), .int (-1), .int 0, .long 0, .long 0, .ref q_6, .ref q_9, .ref q_12, .ref q_15]) (v := .ref q_15) hx hb (fun w q => hT w (s_DU w q)) t_DU k_DU n_DU hown hK hI g_X (by decide) rfl 8 (by decide) (hT _ w_122) (fun _ q => q) rfl hnm rfl rfl rfl (Nat.le_of_ble_eq_true rfl) rfl d_DU_init_55 (fun H locs hI => ?_)
  generalize eh_17 : fU h_16 X (13, ow, .inr (1, [.int (-1), .int (-1), .int 0, .long 0, .long 0, .ref q_6, .ref q_9, .ref q_12, .ref q_15])) = h_17 at hI
  have hX := hX.set (e := .inr (1, [.int (-1), .int (-1), .int 0, .long 0, .long 0, .ref q_6, .ref q_9, .ref q_12, .ref q_15])) g_X (by decide); rw [eh_17] at hX
  have hF := hF.set (e := .inr (1, [.int (-1), .int (-1), .int 0, .long 0, .long 0, .ref q_6, .ref q_9, .ref q_12, .ref q_15])) g_X ⟨by decide, by decide, rfl⟩; rw [eh_17] at hF
  have g_q_6 : h_17 q_6 = some (14, ow, .inl ((G.2.1 0), 6, .inl (fun _ => 0))) := (congrFun eh_17 q_6).symm.trans (fU_keep g_q_6 (f_neR g_q_6 g_X (by decide)))
  have g_q_9 : h_17 q_9 = some (15, ow, .inl ((G.2.1 0), 5, .inl (fun _ => 0))) := (congrFun eh_17 q_9).symm.trans (fU_keep g_q_9 (f_neR g_q_9 g_X (by decide)))
  have g_q_12 : h_17 q_12 = some (16, ow, .inl ((G.2.1 0), 5, .inl (fun _ => 0))) := (congrFun eh_17 q_12).symm.trans (fU_keep g_q_12 (f_neR g_q_12 g_X (by decide)))
  have g_q_15 : h_17 q_15 = some (17, ow, .inl ((G.2.1 1), 5, .inr (.inl (fun _ => 0)))) := (congrFun eh_17 q_15).symm.trans (fU_keep g_q_15 (f_neR g_q_15 g_X (by decide)))
  have g_X : h_17 X = some (13, ow, .inr (1, [.int (-1), .int (-1), .int 0, .long 0, .long 0, .ref q_6, .ref q_9, .ref q_12, .ref q_15])) := (congrFun eh_17 X).symm.trans (fU_self _ _ _)
  exact f_vret C hr hI ⟨⟨q_6, q_9, q_12, q_15, fun _ => 0, fun _ => 0, fun _ => 0, g_X, g_q_6, g_q_9, g_q_12, g_q_15, (show (0 : Nat) ≤ 5 by decide), fun i q hq => by simp [d0] at hq⟩, hF⟩ hX (Nat.le_of_ble_eq_true rfl) (Nat.le_of_ble_eq_true rfl) d_DU_init_58
theorem gm_DU_reckon : gM y_DU_reckon b_DU_reckon 8 none 5 := ⟨w_625, w_8, ⟨by decide, by decide⟩, by decide +kernel⟩
set_option maxHeartbeats 4000000 in
set_option maxRecDepth 100000 in
/-- DU_reckon  -/
theorem c_DU_reckon (l : Launch) (G : gG) (h : fH) (sz : Nat) (X ow : Nat) (lt rs : Int32) (hv : Nat → Int32) (d : dst) (hD : cDu G h X ow lt rs hv d) (E ne : Nat) (ef rr rm : Nat → Nat) (hEd : cEd G h E ne ef rr rm) (F A : Nat) (fa : Nat → Nat) (gq : Nat → Option Nat) (nf la : Nat) (fl fk fd fw fv : Nat → Nat) (hC : cFo G h F A fa gq nf la fl fk fd fw fv) (lot day on : Nat) (blot : lot < 30) (bday : day ≤ 100000) (bon : on ≤ 100000) (hoks : ∀ e9, e9 < ne → okE rr rm e9) : cM l y_DU_reckon b_DU_reckon 8 none { frames := 4, cells := 0, slots := 0, locals := 95 } G [.ref X, .ref E, .ref F, .int (nI lot), .int (nI day), .int (nI on)] h sz (cQv G h sz (fun h' => ∃ hv', cDu G h' X ow (nI lot) (rk (mK nf fl fk fd fw fv lot day on) (mE ne ef rr rm day)).1 hv' (rk (mK nf fl fk fd fw fv lot day on) (mE ne ef rr rm day)).2 ∧ fF (inD ow) h h')) := by
  refine f_start (by decide) (Nat.le_of_ble_eq_true rfl) ?_
  intro p e s m below meth c ls C hr hsz hI hl
  obtain ⟨hx, hb, hml, hown, hnm, hlk, hT, hG, hZ⟩ := id C
  have hK := hG.1
  have hX : fX h sz h := fX.rf
  have hl : lv_has ls 8 [(0, .ref X), (1, .ref E), (2, .ref F), (3, .int (nI lot)), (4, .int (nI day)), (5, .int (nI on))] := hl
  obtain ⟨a1, a2, a3, a4, sl, sr, sc, g_X, g_a1, g_a2, g_a3, g_a4, bdl, hq⟩ := id hD
  obtain ⟨L, fr, ce⟩ := d
  dsimp only at g_X hq bdl
  have hF : fF (inD ow) h h := fF.rf
  obtain ⟨A5, A6, ge, g_E, g_A5, g_A6, hge, bne, bef⟩ := id hEd
  obtain ⟨g_F, g_A, hgq, hfa, bnf, bla, bfl, bfk, bfd, bfw, bfv0⟩ := id hC
  have bfv : ∀ i, fv i ≤ 100000000 := fun i => Nat.le_trans (bfv0 i) (mostN_le _)
  rcases eE : eo ef day ne with _ | e9
  · have eM : mE ne ef rr rm day = none := by unfold mE; rw [eE]
    refine lv_aload_n hx hb d_DU_reckon_0 rfl (lv_at hl 0 rfl) ?_
    refine lv_iload_n hx hb d_DU_reckon_1 rfl (lv_at hl 3 rfl) ?_
    refine f_put (C := "DutyRules$Duty") (T := T_DU) (N := 9) (fs' := [.int (nI lot), .int rs, .int (nI L.length), .long (lN ce), .long (lN fr), .ref a1, .ref a2, .ref a3, .ref a4]) (v := .int (nI lot)) hx hb (fun w q => hT w (s_DU w q)) t_DU k_DU n_DU hown hK hI g_X (by decide) rfl 0 (by decide) (hT _ w_107) (fun _ q => q) rfl rfl rfl (Nat.le_of_ble_eq_true rfl) rfl d_DU_reckon_2 (fun H locs hI => ?_)
    generalize eh_1 : fU h X (13, ow, .inr (1, [.int (nI lot), .int rs, .int (nI L.length), .long (lN ce), .long (lN fr), .ref a1, .ref a2, .ref a3, .ref a4])) = h_1 at hI
    have hX := hX.set (e := .inr (1, [.int (nI lot), .int rs, .int (nI L.length), .long (lN ce), .long (lN fr), .ref a1, .ref a2, .ref a3, .ref a4])) g_X (by decide); rw [eh_1] at hX
    have hF := hF.set (e := .inr (1, [.int (nI lot), .int rs, .int (nI L.length), .long (lN ce), .long (lN fr), .ref a1, .ref a2, .ref a3, .ref a4])) g_X ⟨by decide, by decide, rfl⟩; rw [eh_1] at hF
    have g_a1 : h_1 a1 = some (14, ow, .inl ((G.2.1 0), 6, .inl hv)) := (congrFun eh_1 a1).symm.trans (fU_keep g_a1 (f_neR g_a1 g_X (by decide)))
    have g_a2 : h_1 a2 = some (15, ow, .inl ((G.2.1 0), 5, .inl (fun i => nI (sl i)))) := (congrFun eh_1 a2).symm.trans (fU_keep g_a2 (f_neR g_a2 g_X (by decide)))
    have g_a3 : h_1 a3 = some (16, ow, .inl ((G.2.1 0), 5, .inl (fun i => nI (sr i)))) := (congrFun eh_1 a3).symm.trans (fU_keep g_a3 (f_neR g_a3 g_X (by decide)))
    have g_a4 : h_1 a4 = some (17, ow, .inl ((G.2.1 1), 5, .inr (.inl (fun i => lN (sc i))))) := (congrFun eh_1 a4).symm.trans (fU_keep g_a4 (f_neR g_a4 g_X (by decide)))
    have g_E : h_1 E = some (4, 0, .inr (2, [.int (nI ne), .ref A5, .ref A6])) := (congrFun eh_1 E).symm.trans (fU_keep g_E (f_neR g_E g_X (by decide)))
    have g_A5 : h_1 A5 = some (5, 0, .inl ((G.2.1 4), 10, .inr (.inr (.inr (.inr ge))))) := (congrFun eh_1 A5).symm.trans (fU_keep g_A5 (f_neR g_A5 g_X (by decide)))
    have g_A6 : h_1 A6 = some (6, 0, .inl ((G.2.1 0), 10, .inl (fun i => nI (ef i)))) := (congrFun eh_1 A6).symm.trans (fU_keep g_A6 (f_neR g_A6 g_X (by decide)))
    have g_X : h_1 X = some (13, ow, .inr (1, [.int (nI lot), .int rs, .int (nI L.length), .long (lN ce), .long (lN fr), .ref a1, .ref a2, .ref a3, .ref a4])) := (congrFun eh_1 X).symm.trans (fU_self _ _ _)
    refine lv_aload_n hx hb d_DU_reckon_5 rfl (lv_at hl 0 rfl) ?_
    refine lv_iconst (v := 0) hx hb d_DU_reckon_6 (by decide) ?_
    refine f_put (C := "DutyRules$Duty") (T := T_DU) (N := 9) (fs' := [.int (nI lot), .int rs, .int 0, .long (lN ce), .long (lN fr), .ref a1, .ref a2, .ref a3, .ref a4]) (v := .int 0) hx hb (fun w q => hT w (s_DU w q)) t_DU k_DU n_DU hown hK hI g_X (by decide) rfl 2 (by decide) (hT _ w_111) (fun _ q => q) rfl rfl rfl (Nat.le_of_ble_eq_true rfl) rfl d_DU_reckon_7 (fun H locs hI => ?_)
    generalize eh_2 : fU h_1 X (13, ow, .inr (1, [.int (nI lot), .int rs, .int 0, .long (lN ce), .long (lN fr), .ref a1, .ref a2, .ref a3, .ref a4])) = h_2 at hI
    have hX := hX.set (e := .inr (1, [.int (nI lot), .int rs, .int 0, .long (lN ce), .long (lN fr), .ref a1, .ref a2, .ref a3, .ref a4])) g_X (by decide); rw [eh_2] at hX
    have hF := hF.set (e := .inr (1, [.int (nI lot), .int rs, .int 0, .long (lN ce), .long (lN fr), .ref a1, .ref a2, .ref a3, .ref a4])) g_X ⟨by decide, by decide, rfl⟩; rw [eh_2] at hF
    have g_a1 : h_2 a1 = some (14, ow, .inl ((G.2.1 0), 6, .inl hv)) := (congrFun eh_2 a1).symm.trans (fU_keep g_a1 (f_neR g_a1 g_X (by decide)))
    have g_a2 : h_2 a2 = some (15, ow, .inl ((G.2.1 0), 5, .inl (fun i => nI (sl i)))) := (congrFun eh_2 a2).symm.trans (fU_keep g_a2 (f_neR g_a2 g_X (by decide)))
    have g_a3 : h_2 a3 = some (16, ow, .inl ((G.2.1 0), 5, .inl (fun i => nI (sr i)))) := (congrFun eh_2 a3).symm.trans (fU_keep g_a3 (f_neR g_a3 g_X (by decide)))
    have g_a4 : h_2 a4 = some (17, ow, .inl ((G.2.1 1), 5, .inr (.inl (fun i => lN (sc i))))) := (congrFun eh_2 a4).symm.trans (fU_keep g_a4 (f_neR g_a4 g_X (by decide)))
    have g_E : h_2 E = some (4, 0, .inr (2, [.int (nI ne), .ref A5, .ref A6])) := (congrFun eh_2 E).symm.trans (fU_keep g_E (f_neR g_E g_X (by decide)))
    have g_A5 : h_2 A5 = some (5, 0, .inl ((G.2.1 4), 10, .inr (.inr (.inr (.inr ge))))) := (congrFun eh_2 A5).symm.trans (fU_keep g_A5 (f_neR g_A5 g_X (by decide)))
    have g_A6 : h_2 A6 = some (6, 0, .inl ((G.2.1 0), 10, .inl (fun i => nI (ef i)))) := (congrFun eh_2 A6).symm.trans (fU_keep g_A6 (f_neR g_A6 g_X (by decide)))
    have g_X : h_2 X = some (13, ow, .inr (1, [.int (nI lot), .int rs, .int 0, .long (lN ce), .long (lN fr), .ref a1, .ref a2, .ref a3, .ref a4])) := (congrFun eh_2 X).symm.trans (fU_self _ _ _)
    refine lv_aload_n hx hb d_DU_reckon_10 rfl (lv_at hl 0 rfl) ?_
    refine lv_lconst (v := 0) hx hb d_DU_reckon_11 (by decide) ?_
    refine f_put (C := "DutyRules$Duty") (T := T_DU) (N := 9) (fs' := [.int (nI lot), .int rs, .int 0, .long 0, .long (lN fr), .ref a1, .ref a2, .ref a3, .ref a4]) (v := .long 0) hx hb (fun w q => hT w (s_DU w q)) t_DU k_DU n_DU hown hK hI g_X (by decide) rfl 3 (by decide) (hT _ w_113) (fun _ q => q) rfl rfl rfl (Nat.le_of_ble_eq_true rfl) rfl d_DU_reckon_12 (fun H locs hI => ?_)
    generalize eh_3 : fU h_2 X (13, ow, .inr (1, [.int (nI lot), .int rs, .int 0, .long 0, .long (lN fr), .ref a1, .ref a2, .ref a3, .ref a4])) = h_3 at hI
    have hX := hX.set (e := .inr (1, [.int (nI lot), .int rs, .int 0, .long 0, .long (lN fr), .ref a1, .ref a2, .ref a3, .ref a4])) g_X (by decide); rw [eh_3] at hX
    have hF := hF.set (e := .inr (1, [.int (nI lot), .int rs, .int 0, .long 0, .long (lN fr), .ref a1, .ref a2, .ref a3, .ref a4])) g_X ⟨by decide, by decide, rfl⟩; rw [eh_3] at hF
    have g_a1 : h_3 a1 = some (14, ow, .inl ((G.2.1 0), 6, .inl hv)) := (congrFun eh_3 a1).symm.trans (fU_keep g_a1 (f_neR g_a1 g_X (by decide)))
    have g_a2 : h_3 a2 = some (15, ow, .inl ((G.2.1 0), 5, .inl (fun i => nI (sl i)))) := (congrFun eh_3 a2).symm.trans (fU_keep g_a2 (f_neR g_a2 g_X (by decide)))
    have g_a3 : h_3 a3 = some (16, ow, .inl ((G.2.1 0), 5, .inl (fun i => nI (sr i)))) := (congrFun eh_3 a3).symm.trans (fU_keep g_a3 (f_neR g_a3 g_X (by decide)))
    have g_a4 : h_3 a4 = some (17, ow, .inl ((G.2.1 1), 5, .inr (.inl (fun i => lN (sc i))))) := (congrFun eh_3 a4).symm.trans (fU_keep g_a4 (f_neR g_a4 g_X (by decide)))
    have g_E : h_3 E = some (4, 0, .inr (2, [.int (nI ne), .ref A5, .ref A6])) := (congrFun eh_3 E).symm.trans (fU_keep g_E (f_neR g_E g_X (by decide)))
    have g_A5 : h_3 A5 = some (5, 0, .inl ((G.2.1 4), 10, .inr (.inr (.inr (.inr ge))))) := (congrFun eh_3 A5).symm.trans (fU_keep g_A5 (f_neR g_A5 g_X (by decide)))
    have g_A6 : h_3 A6 = some (6, 0, .inl ((G.2.1 0), 10, .inl (fun i => nI (ef i)))) := (congrFun eh_3 A6).symm.trans (fU_keep g_A6 (f_neR g_A6 g_X (by decide)))
    have g_X : h_3 X = some (13, ow, .inr (1, [.int (nI lot), .int rs, .int 0, .long 0, .long (lN fr), .ref a1, .ref a2, .ref a3, .ref a4])) := (congrFun eh_3 X).symm.trans (fU_self _ _ _)
    refine lv_aload_n hx hb d_DU_reckon_15 rfl (lv_at hl 0 rfl) ?_
    refine lv_lconst (v := 0) hx hb d_DU_reckon_16 (by decide) ?_
    refine f_put (C := "DutyRules$Duty") (T := T_DU) (N := 9) (fs' := [.int (nI lot), .int rs, .int 0, .long 0, .long 0, .ref a1, .ref a2, .ref a3, .ref a4]) (v := .long 0) hx hb (fun w q => hT w (s_DU w q)) t_DU k_DU n_DU hown hK hI g_X (by decide) rfl 4 (by decide) (hT _ w_115) (fun _ q => q) rfl rfl rfl (Nat.le_of_ble_eq_true rfl) rfl d_DU_reckon_17 (fun H locs hI => ?_)
    generalize eh_4 : fU h_3 X (13, ow, .inr (1, [.int (nI lot), .int rs, .int 0, .long 0, .long 0, .ref a1, .ref a2, .ref a3, .ref a4])) = h_4 at hI
    have hX := hX.set (e := .inr (1, [.int (nI lot), .int rs, .int 0, .long 0, .long 0, .ref a1, .ref a2, .ref a3, .ref a4])) g_X (by decide); rw [eh_4] at hX
    have hF := hF.set (e := .inr (1, [.int (nI lot), .int rs, .int 0, .long 0, .long 0, .ref a1, .ref a2, .ref a3, .ref a4])) g_X ⟨by decide, by decide, rfl⟩; rw [eh_4] at hF
    have g_a1 : h_4 a1 = some (14, ow, .inl ((G.2.1 0), 6, .inl hv)) := (congrFun eh_4 a1).symm.trans (fU_keep g_a1 (f_neR g_a1 g_X (by decide)))
    have g_a2 : h_4 a2 = some (15, ow, .inl ((G.2.1 0), 5, .inl (fun i => nI (sl i)))) := (congrFun eh_4 a2).symm.trans (fU_keep g_a2 (f_neR g_a2 g_X (by decide)))
    have g_a3 : h_4 a3 = some (16, ow, .inl ((G.2.1 0), 5, .inl (fun i => nI (sr i)))) := (congrFun eh_4 a3).symm.trans (fU_keep g_a3 (f_neR g_a3 g_X (by decide)))
    have g_a4 : h_4 a4 = some (17, ow, .inl ((G.2.1 1), 5, .inr (.inl (fun i => lN (sc i))))) := (congrFun eh_4 a4).symm.trans (fU_keep g_a4 (f_neR g_a4 g_X (by decide)))
    have g_E : h_4 E = some (4, 0, .inr (2, [.int (nI ne), .ref A5, .ref A6])) := (congrFun eh_4 E).symm.trans (fU_keep g_E (f_neR g_E g_X (by decide)))
    have g_A5 : h_4 A5 = some (5, 0, .inl ((G.2.1 4), 10, .inr (.inr (.inr (.inr ge))))) := (congrFun eh_4 A5).symm.trans (fU_keep g_A5 (f_neR g_A5 g_X (by decide)))
    have g_A6 : h_4 A6 = some (6, 0, .inl ((G.2.1 0), 10, .inl (fun i => nI (ef i)))) := (congrFun eh_4 A6).symm.trans (fU_keep g_A6 (f_neR g_A6 g_X (by decide)))
    have g_X : h_4 X = some (13, ow, .inr (1, [.int (nI lot), .int rs, .int 0, .long 0, .long 0, .ref a1, .ref a2, .ref a3, .ref a4])) := (congrFun eh_4 X).symm.trans (fU_self _ _ _)
    refine lv_aload_n hx hb d_DU_reckon_20 rfl (lv_at hl 1 rfl) ?_
    refine lv_iload hx hb d_DU_reckon_21 (lv_at hl 4 rfl) ?_
    refine f_callq hI (f_runV C hI (c_ED_heldOn l G h_4 _ E ne A5 A6 ge ef day g_E g_A5 g_A6 bne bef bday) gm_ED_heldOn w_627 w_628 w_626 g_E rfl rfl rfl hl.1 rfl (Nat.le_of_ble_eq_true rfl) ⟨Nat.le_of_ble_eq_true rfl, Nat.le_of_ble_eq_true rfl⟩ d_DU_reckon_23 ⟨Nat.le_of_ble_eq_true rfl, Nat.le_of_ble_eq_true rfl⟩) (fun r_5 h9 H9 locs hp9 hX9 hz9 hI => ?_)
    obtain ⟨rfl, e9q⟩ := hp9
    rw [e9q] at hI
    clear hX9 e9q
    rw [eE]
    show W _ _ _ _ _ _ _ _ _ _ _ _ _ _ _ (F0 m _ ls [.null])
    refine lv_astoreN (lv' := [(6, .null), (0, .ref X), (1, .ref E), (2, .ref F), (3, .int (nI lot)), (4, .int (nI day)), (5, .int (nI on))]) hx hb d_DU_reckon_26 hl (by decide) rfl (fun ls hl => ?_)
    refine lv_aloadN hx hb d_DU_reckon_28 (lv_at hl 0 rfl) ?_
    refine lv_ifnonnullN hx hb d_DU_reckon_30 ?_
    refine lv_aload_n hx hb d_DU_reckon_33 rfl (lv_at hl 1 rfl) ?_
    refine lv_bipush (v := 20) hx hb d_DU_reckon_34 (by decide) ?_
    refine f_put (C := "DutyRules$Duty") (T := T_DU) (N := 9) (fs' := [.int (nI lot), .int 20, .int 0, .long 0, .long 0, .ref a1, .ref a2, .ref a3, .ref a4]) (v := .int 20) hx hb (fun w q => hT w (s_DU w q)) t_DU k_DU n_DU hown hK hI g_X (by decide) rfl 1 (by decide) (hT _ w_109) (fun _ q => q) rfl rfl rfl (Nat.le_of_ble_eq_true rfl) rfl d_DU_reckon_36 (fun H locs hI => ?_)
    generalize eh_6 : fU h_4 X (13, ow, .inr (1, [.int (nI lot), .int 20, .int 0, .long 0, .long 0, .ref a1, .ref a2, .ref a3, .ref a4])) = h_6 at hI
    have hX := hX.set (e := .inr (1, [.int (nI lot), .int 20, .int 0, .long 0, .long 0, .ref a1, .ref a2, .ref a3, .ref a4])) g_X (by decide); rw [eh_6] at hX
    have hF := hF.set (e := .inr (1, [.int (nI lot), .int 20, .int 0, .long 0, .long 0, .ref a1, .ref a2, .ref a3, .ref a4])) g_X ⟨by decide, by decide, rfl⟩; rw [eh_6] at hF
    have g_a1 : h_6 a1 = some (14, ow, .inl ((G.2.1 0), 6, .inl hv)) := (congrFun eh_6 a1).symm.trans (fU_keep g_a1 (f_neR g_a1 g_X (by decide)))
    have g_a2 : h_6 a2 = some (15, ow, .inl ((G.2.1 0), 5, .inl (fun i => nI (sl i)))) := (congrFun eh_6 a2).symm.trans (fU_keep g_a2 (f_neR g_a2 g_X (by decide)))
    have g_a3 : h_6 a3 = some (16, ow, .inl ((G.2.1 0), 5, .inl (fun i => nI (sr i)))) := (congrFun eh_6 a3).symm.trans (fU_keep g_a3 (f_neR g_a3 g_X (by decide)))
    have g_a4 : h_6 a4 = some (17, ow, .inl ((G.2.1 1), 5, .inr (.inl (fun i => lN (sc i))))) := (congrFun eh_6 a4).symm.trans (fU_keep g_a4 (f_neR g_a4 g_X (by decide)))
    have g_E : h_6 E = some (4, 0, .inr (2, [.int (nI ne), .ref A5, .ref A6])) := (congrFun eh_6 E).symm.trans (fU_keep g_E (f_neR g_E g_X (by decide)))
    have g_A5 : h_6 A5 = some (5, 0, .inl ((G.2.1 4), 10, .inr (.inr (.inr (.inr ge))))) := (congrFun eh_6 A5).symm.trans (fU_keep g_A5 (f_neR g_A5 g_X (by decide)))
    have g_A6 : h_6 A6 = some (6, 0, .inl ((G.2.1 0), 10, .inl (fun i => nI (ef i)))) := (congrFun eh_6 A6).symm.trans (fU_keep g_A6 (f_neR g_A6 g_X (by decide)))
    have g_X : h_6 X = some (13, ow, .inr (1, [.int (nI lot), .int 20, .int 0, .long 0, .long 0, .ref a1, .ref a2, .ref a3, .ref a4])) := (congrFun eh_6 X).symm.trans (fU_self _ _ _)
    exact f_vret C hr hI (by rw [eM]; exact ⟨hv, ⟨a1, a2, a3, a4, sl, sr, sc, g_X, g_a1, g_a2, g_a3, g_a4, Nat.zero_le _, fun i q hq => by simp [rk, d0] at hq⟩, hF⟩) hX (Nat.le_refl _) (Nat.le_refl _) d_DU_reckon_39
  · have hlt9 := (eo_lt eE).1
    obtain ⟨R, hgR, hcR⟩ := hge e9 hlt9
    have eM : mE ne ef rr rm day = some (mF rr rm e9, mV rr e9) := by unfold mE; rw [eE]
    have hok := hoks e9 hlt9
    have J43 : ∀ (k n : Nat), n + k = 6 → ∀ hv1 : Nat → Int32, (∀ j, j < n → hv1 j = oN ((mK nf fl fk fd fw fv lot day on) j)) → ∀ (h1 : fH) (H : Heap) (locs : List Loc), h1 X = some (13, ow, .inr (1, [.int (nI lot), .int rs, .int 0, .long 0, .long 0, .ref a1, .ref a2, .ref a3, .ref a4])) → h1 a1 = some (14, ow, .inl ((G.2.1 0), 6, .inl hv1)) → h1 a2 = some (15, ow, .inl ((G.2.1 0), 5, .inl (fun i => nI (sl i)))) → h1 a3 = some (16, ow, .inl ((G.2.1 0), 5, .inl (fun i => nI (sr i)))) → h1 a4 = some (17, ow, .inl ((G.2.1 1), 5, .inr (.inl (fun i => lN (sc i))))) → fF (inD ow) h h1 → fX h sz h1 → fI G.1 g_cl (fA h sz) s.heap h1 H locs → ∀ ls : Array Slot, lv_has ls 8 [(0, .ref X), (1, .ref E), (2, .ref F), (3, .int (nI lot)), (4, .int (nI day)), (5, .int (nI on)), (6, .ref R), (7, .int (nI n))] → W p l e { frames := 4, cells := 0, slots := 0, locals := 95 } s m ([.ref X, .ref E, .ref F, .int (nI lot), .int (nI day), .int (nI on)] : List Value).toArray below meth c H locs 0 0 (MQ below (cQv G h sz (fun h' => ∃ hv', cDu G h' X ow (nI lot) (rk (mK nf fl fk fd fw fv lot day on) (mE ne ef rr rm day)).1 hv' (rk (mK nf fl fk fd fw fv lot day on) (mE ne ef rr rm day)).2 ∧ fF (inD ow) h h')) ([.ref X, .ref E, .ref F, .int (nI lot), .int (nI day), .int (nI on)] : List Value).toArray s 0 0 (fA h sz)) (F0 m 43 ls []) := by
      intro k
      induction k with
      | zero =>
        intro n hn hv1 hh h1 H locs g_X g_a1 g_a2 g_a3 g_a4 hF hX hI ls hl
        have hC1 := hC.keepD hF
        have hc9 := hcR.keepD hF
        obtain ⟨g_F, _⟩ := id hC1
        obtain ⟨kf0, nf0, ⟨b1, b2, g_R, _⟩, _⟩ := id hc9
        have hh : ∀ k, k < 6 → hv1 k = oN ((mK nf fl fk fd fw fv lot day on) k) := fun k hk => hh k (by omega)
        refine lv_iload hx hb d_DU_reckon_43 (lv_at hl 7 rfl) ?_
        refine lv_bipush (v := 6) hx hb d_DU_reckon_45 (by decide) ?_
        refine lv_icmp_ge (tgt := 74) hx hb d_DU_reckon_47 (by decide) (fun c_7 => ?_) (fun c_7 => absurd ((n_le (a := 6) (b := n) (by omega) (by omega)).mpr (by omega)) c_7)
        refine lv_aload_n hx hb d_DU_reckon_74 rfl (lv_at hl 0 rfl) ?_
        refine lv_aload_n hx hb d_DU_reckon_75 rfl (lv_at hl 0 rfl) ?_
        refine lv_aload hx hb d_DU_reckon_76 (lv_at hl 6 rfl) ?_
        refine f_calli hI (f_runV C hI (c_DU_reasonToBeOpen l G h1 _ X ow (nI lot) rs hv1 ([], 0, 0) ⟨a1, a2, a3, a4, sl, sr, sc, g_X, g_a1, g_a2, g_a3, g_a4, (show (0 : Nat) ≤ 5 by decide), fun i q hq => by simp at hq⟩ (mK nf fl fk fd fw fv lot day on) hh R e9 rr rm hc9 hok (fun k v q => Nat.le_trans (mK_b bnf bfv0 q) (mostN_le _))) gm_DU_reasonToBeOpen w_636 p_DU_reasonToBeOpen w_634 g_X rfl rfl rfl hl.1 rfl (Nat.le_of_ble_eq_true rfl) ⟨Nat.le_of_ble_eq_true rfl, Nat.le_of_ble_eq_true rfl⟩ d_DU_reckon_78 ⟨Nat.le_of_ble_eq_true rfl, Nat.le_of_ble_eq_true rfl⟩) (fun r_8 h8 H9 locs hp9 hX9 hz9 hI => ?_)
        obtain ⟨rfl, e9⟩ := hp9
        rw [e9] at hI
        clear hX9 e9
        refine f_put (C := "DutyRules$Duty") (T := T_DU) (N := 9) (fs' := [.int (nI lot), .int (rkE (mK nf fl fk fd fw fv lot day on) (mF rr rm e9) (mV rr e9)).1, .int 0, .long 0, .long 0, .ref a1, .ref a2, .ref a3, .ref a4]) (v := .int (rkE (mK nf fl fk fd fw fv lot day on) (mF rr rm e9) (mV rr e9)).1) hx hb (fun w q => hT w (s_DU w q)) t_DU k_DU n_DU hown hK hI g_X (by decide) rfl 1 (by decide) (hT _ w_109) (fun _ q => q) rfl rfl rfl (Nat.le_of_ble_eq_true rfl) rfl d_DU_reckon_81 (fun H locs hI => ?_)
        generalize eh_9 : fU h1 X (13, ow, .inr (1, [.int (nI lot), .int (rkE (mK nf fl fk fd fw fv lot day on) (mF rr rm e9) (mV rr e9)).1, .int 0, .long 0, .long 0, .ref a1, .ref a2, .ref a3, .ref a4])) = h_9 at hI
        have hX := hX.set (e := .inr (1, [.int (nI lot), .int (rkE (mK nf fl fk fd fw fv lot day on) (mF rr rm e9) (mV rr e9)).1, .int 0, .long 0, .long 0, .ref a1, .ref a2, .ref a3, .ref a4])) g_X (by decide); rw [eh_9] at hX
        have hF := hF.set (e := .inr (1, [.int (nI lot), .int (rkE (mK nf fl fk fd fw fv lot day on) (mF rr rm e9) (mV rr e9)).1, .int 0, .long 0, .long 0, .ref a1, .ref a2, .ref a3, .ref a4])) g_X ⟨by decide, by decide, rfl⟩; rw [eh_9] at hF
        have g_a1 : h_9 a1 = some (14, ow, .inl ((G.2.1 0), 6, .inl hv1)) := (congrFun eh_9 a1).symm.trans (fU_keep g_a1 (f_neR g_a1 g_X (by decide)))
        have g_a2 : h_9 a2 = some (15, ow, .inl ((G.2.1 0), 5, .inl (fun i => nI (sl i)))) := (congrFun eh_9 a2).symm.trans (fU_keep g_a2 (f_neR g_a2 g_X (by decide)))
        have g_a3 : h_9 a3 = some (16, ow, .inl ((G.2.1 0), 5, .inl (fun i => nI (sr i)))) := (congrFun eh_9 a3).symm.trans (fU_keep g_a3 (f_neR g_a3 g_X (by decide)))
        have g_a4 : h_9 a4 = some (17, ow, .inl ((G.2.1 1), 5, .inr (.inl (fun i => lN (sc i))))) := (congrFun eh_9 a4).symm.trans (fU_keep g_a4 (f_neR g_a4 g_X (by decide)))
        have g_F : h_9 F = some (10, 0, .inr (4, [.int (nI nf), .int (nI la), .ref A])) := (congrFun eh_9 F).symm.trans (fU_keep g_F (f_neR g_F g_X (by decide)))
        have g_R : h_9 R = some (7, 0, .inr (6, [.int (nI (rm e9)), .ref b1, .ref b2])) := (congrFun eh_9 R).symm.trans (fU_keep g_R (f_neR g_R g_X (by decide)))
        have g_X : h_9 X = some (13, ow, .inr (1, [.int (nI lot), .int (rkE (mK nf fl fk fd fw fv lot day on) (mF rr rm e9) (mV rr e9)).1, .int 0, .long 0, .long 0, .ref a1, .ref a2, .ref a3, .ref a4])) := (congrFun eh_9 X).symm.trans (fU_self _ _ _)
        refine lv_aload_n hx hb d_DU_reckon_84 rfl (lv_at hl 0 rfl) ?_
        refine f_get (C := "DutyRules$Duty") (T := T_DU) (N := 9) hx hb (fun w q => hT w (s_DU w q)) hown hK hI g_X rfl 1 (by decide) (hT _ w_109) (fun _ q => q) rfl d_DU_reckon_85 ?_
        refine lv_iconst (v := (-1)) hx hb d_DU_reckon_88 (by decide) ?_
        refine lv_icmp_ne (tgt := 98) hx hb d_DU_reckon_89 (by decide) (fun c_10 => ?_) (fun c_10 => ?_)
        · skip
          exact f_vret C hr hI (by rw [eM]; show ∃ hv', cDu G _ X ow (nI lot) (rkE (mK nf fl fk fd fw fv lot day on) (mF rr rm e9) (mV rr e9)).1 hv' (rkE (mK nf fl fk fd fw fv lot day on) (mF rr rm e9) (mV rr e9)).2 ∧ _; exact ⟨hv1, by rw [rkE_d0 c_10]; exact ⟨a1, a2, a3, a4, sl, sr, sc, g_X, g_a1, g_a2, g_a3, g_a4, (show (0 : Nat) ≤ 5 by decide), fun i q hq => by simp [d0] at hq⟩, hF⟩) hX (Nat.le_refl _) (Nat.le_refl _) d_DU_reckon_98
        · skip
          refine lv_aload_n hx hb d_DU_reckon_92 rfl (lv_at hl 0 rfl) ?_
          refine lv_aload hx hb d_DU_reckon_93 (lv_at hl 6 rfl) ?_
          obtain ⟨g, st9, li, ra, h0, h1, h2, h3, h4, h5⟩ := rkE_inv c_10
          have hzA := hI.2.2.2.1
          have hc9 := hcR.keepD hF
          refine f_callv hI (f_runV C hI (c_DU_doSteps l G h_9 _ X ow (nI lot) (rkE (mK nf fl fk fd fw fv lot day on) (mF rr rm e9) (mV rr e9)).1 hv1 ⟨a1, a2, a3, a4, sl, sr, sc, g_X, g_a1, g_a2, g_a3, g_a4, (show (0 : Nat) ≤ 5 by decide), fun i q hq => by simp at hq⟩ (mK nf fl fk fd fw fv lot day on) hh R e9 rr rm hc9 hok g st9 li ra h0 h1 h2 h3 (mK_b bnf bfv0 h0) (Nat.le_trans (mK_b bnf bfv0 h1) (mostN_le _)) (mK_b bnf bfv0 h2) h4 (fun k v q => Nat.le_trans (mK_b bnf bfv0 q) (mostN_le _))) gm_DU_doSteps w_648 p_DU_doSteps w_646 g_X rfl rfl rfl hl.1 rfl (Nat.le_of_ble_eq_true rfl) ⟨Nat.le_of_ble_eq_true rfl, Nat.le_of_ble_eq_true rfl⟩ d_DU_reckon_95 ⟨Nat.le_of_ble_eq_true rfl, Nat.le_of_ble_eq_true rfl⟩) (fun h9 H9 locs hp9 hX9 hz9 hI => ?_)
          obtain ⟨hD9, hF9⟩ := hp9
          have hX := fX.tr (Nat.le_trans (Nat.le_of_eq hsz.symm) hzA) hX hX9
          have hF := hF.tr hF9
          exact f_vret C hr hI (by rw [eM]; show ∃ hv', cDu G _ X ow (nI lot) (rkE (mK nf fl fk fd fw fv lot day on) (mF rr rm e9) (mV rr e9)).1 hv' (rkE (mK nf fl fk fd fw fv lot day on) (mF rr rm e9) (mV rr e9)).2 ∧ _; exact ⟨hv1, by rw [show (rkE (mK nf fl fk fd fw fv lot day on) (mF rr rm e9) (mV rr e9)).2 = rkS (mK nf fl fk fd fw fv lot day on) (mF rr rm e9) (mV rr e9) g li ra by rw [h5]]; exact hD9, hF⟩) hX (Nat.le_refl _) (Nat.le_refl _) d_DU_reckon_98
      | succ k ih =>
        intro n hn hv1 hh h1 H locs g_X g_a1 g_a2 g_a3 g_a4 hF hX hI ls hl
        have ih : ∀ n : Nat, n + k = 6 → ∀ hv1 : Nat → Int32, (∀ j, j < n → hv1 j = oN ((mK nf fl fk fd fw fv lot day on) j)) → ∀ (h1 : fH) (H : Heap) (locs : List Loc), h1 X = some (13, ow, .inr (1, [.int (nI lot), .int rs, .int 0, .long 0, .long 0, .ref a1, .ref a2, .ref a3, .ref a4])) → h1 a1 = some (14, ow, .inl ((G.2.1 0), 6, .inl hv1)) → h1 a2 = some (15, ow, .inl ((G.2.1 0), 5, .inl (fun i => nI (sl i)))) → h1 a3 = some (16, ow, .inl ((G.2.1 0), 5, .inl (fun i => nI (sr i)))) → h1 a4 = some (17, ow, .inl ((G.2.1 1), 5, .inr (.inl (fun i => lN (sc i))))) → fF (inD ow) h h1 → fX h sz h1 → fI G.1 g_cl (fA h sz) s.heap h1 H locs → ∀ ls : Array Slot, lv_has ls 8 [(0, .ref X), (1, .ref E), (2, .ref F), (3, .int (nI lot)), (4, .int (nI day)), (5, .int (nI on)), (6, .ref R), (7, .int (nI n))] → W p l e { frames := 4, cells := 0, slots := 0, locals := 95 } s m ([.ref X, .ref E, .ref F, .int (nI lot), .int (nI day), .int (nI on)] : List Value).toArray below meth c H locs 0 0 (MQ below (cQv G h sz (fun h' => ∃ hv', cDu G h' X ow (nI lot) (rk (mK nf fl fk fd fw fv lot day on) (mE ne ef rr rm day)).1 hv' (rk (mK nf fl fk fd fw fv lot day on) (mE ne ef rr rm day)).2 ∧ fF (inD ow) h h')) ([.ref X, .ref E, .ref F, .int (nI lot), .int (nI day), .int (nI on)] : List Value).toArray s 0 0 (fA h sz)) (F0 m 43 ls []) := ih
        have hC1 := hC.keepD hF
        have hc9 := hcR.keepD hF
        obtain ⟨g_F, _⟩ := id hC1
        obtain ⟨kf0, nf0, ⟨b1, b2, g_R, _⟩, _⟩ := id hc9
        refine lv_iload hx hb d_DU_reckon_43 (lv_at hl 7 rfl) ?_
        refine lv_bipush (v := 6) hx hb d_DU_reckon_45 (by decide) ?_
        refine lv_icmp_ge (tgt := 74) hx hb d_DU_reckon_47 (by decide) (fun c_12 => absurd c_12 (fun q => absurd ((n_le (a := 6) (b := n) (by omega) (by omega)).mp q) (by omega))) (fun c_12 => ?_)
        refine lv_aload_n hx hb d_DU_reckon_50 rfl (lv_at hl 0 rfl) ?_
        refine f_get (C := "DutyRules$Duty") (T := T_DU) (N := 9) hx hb (fun w q => hT w (s_DU w q)) hown hK hI g_X rfl 5 (by decide) (hT _ w_117) (fun _ q => q) rfl d_DU_reckon_51 ?_
        refine lv_iload hx hb d_DU_reckon_54 (lv_at hl 7 rfl) ?_
        refine lv_aload_n hx hb d_DU_reckon_56 rfl (lv_at hl 2 rfl) ?_
        refine lv_iload_n hx hb d_DU_reckon_57 rfl (lv_at hl 3 rfl) ?_
        refine lv_iload hx hb d_DU_reckon_58 (lv_at hl 7 rfl) ?_
        refine lv_iload hx hb d_DU_reckon_60 (lv_at hl 4 rfl) ?_
        refine lv_iload hx hb d_DU_reckon_62 (lv_at hl 5 rfl) ?_
        refine f_calli hI (f_runV C hI (c_FS_heldValue l G h1 _ F A fa gq nf la fl fk fd fw fv hC1 lot n blot (by omega) day on bday bon) gm_FS_heldValue w_631 w_632 w_630 g_F rfl rfl rfl hl.1 rfl (Nat.le_of_ble_eq_true rfl) ⟨Nat.le_of_ble_eq_true rfl, Nat.le_of_ble_eq_true rfl⟩ d_DU_reckon_64 ⟨Nat.le_of_ble_eq_true rfl, Nat.le_of_ble_eq_true rfl⟩) (fun r_13 h8 H9 locs hp9 hX9 hz9 hI => ?_)
        obtain ⟨rfl, e9⟩ := hp9
        rw [e9] at hI
        clear hX9 e9
        refine f_iastn (k := n) (f' := (upd hv1 n (oN ((mK nf fl fk fd fw fv lot day on) n)))) hx hb hI g_a1 (by decide) (fT.ofK hK (t0 := 0) rfl) (by omega) (by omega) rfl d_DU_reckon_67 (fun H locs hI => ?_)
        generalize eh_14 : fU h1 a1 (14, ow, .inl ((G.2.1 0), 6, .inl (upd hv1 n (oN ((mK nf fl fk fd fw fv lot day on) n))))) = h_14 at hI
        have hX := hX.set (e := .inl ((G.2.1 0), 6, .inl (upd hv1 n (oN ((mK nf fl fk fd fw fv lot day on) n))))) g_a1 (by decide); rw [eh_14] at hX
        have hF := hF.set (e := .inl ((G.2.1 0), 6, .inl (upd hv1 n (oN ((mK nf fl fk fd fw fv lot day on) n))))) g_a1 ⟨by decide, by decide, rfl⟩; rw [eh_14] at hF
        have g_X : h_14 X = some (13, ow, .inr (1, [.int (nI lot), .int rs, .int 0, .long 0, .long 0, .ref a1, .ref a2, .ref a3, .ref a4])) := (congrFun eh_14 X).symm.trans (fU_keep g_X (f_neR g_X g_a1 (by decide)))
        have g_a2 : h_14 a2 = some (15, ow, .inl ((G.2.1 0), 5, .inl (fun i => nI (sl i)))) := (congrFun eh_14 a2).symm.trans (fU_keep g_a2 (f_neR g_a2 g_a1 (by decide)))
        have g_a3 : h_14 a3 = some (16, ow, .inl ((G.2.1 0), 5, .inl (fun i => nI (sr i)))) := (congrFun eh_14 a3).symm.trans (fU_keep g_a3 (f_neR g_a3 g_a1 (by decide)))
        have g_a4 : h_14 a4 = some (17, ow, .inl ((G.2.1 1), 5, .inr (.inl (fun i => lN (sc i))))) := (congrFun eh_14 a4).symm.trans (fU_keep g_a4 (f_neR g_a4 g_a1 (by decide)))
        have g_F : h_14 F = some (10, 0, .inr (4, [.int (nI nf), .int (nI la), .ref A])) := (congrFun eh_14 F).symm.trans (fU_keep g_F (f_neR g_F g_a1 (by decide)))
        have g_R : h_14 R = some (7, 0, .inr (6, [.int (nI (rm e9)), .ref b1, .ref b2])) := (congrFun eh_14 R).symm.trans (fU_keep g_R (f_neR g_R g_a1 (by decide)))
        have g_a1 : h_14 a1 = some (14, ow, .inl ((G.2.1 0), 6, .inl (upd hv1 n (oN ((mK nf fl fk fd fw fv lot day on) n))))) := (congrFun eh_14 a1).symm.trans (fU_self _ _ _)
        refine lv_iinc (v := nI (n + 1)) (lv' := [(7, .int (nI (n + 1))), (0, .ref X), (1, .ref E), (2, .ref F), (3, .int (nI lot)), (4, .int (nI day)), (5, .int (nI on)), (6, .ref R)]) hx hb d_DU_reckon_68 hl (k := 7) rfl (f_inc1 _) (by decide) rfl (fun ls hl => ?_)
        refine lv_goto (tgt := 43) hx hb d_DU_reckon_71 (by decide) ?_
        refine ih (n + 1) (by omega) _ (fun j hj => ?_) _ _ _ g_X g_a1 g_a2 g_a3 g_a4 hF hX hI ls ?_
        · by_cases hjn : j = n
          · rw [hjn]; exact pk_us
          · exact (pk_un hjn).trans (hh j (by omega))
        exact lv_sub hl [1, 2, 3, 4, 5, 6, 7, 0] rfl
    refine lv_aload_n hx hb d_DU_reckon_0 rfl (lv_at hl 0 rfl) ?_
    refine lv_iload_n hx hb d_DU_reckon_1 rfl (lv_at hl 3 rfl) ?_
    refine f_put (C := "DutyRules$Duty") (T := T_DU) (N := 9) (fs' := [.int (nI lot), .int rs, .int (nI L.length), .long (lN ce), .long (lN fr), .ref a1, .ref a2, .ref a3, .ref a4]) (v := .int (nI lot)) hx hb (fun w q => hT w (s_DU w q)) t_DU k_DU n_DU hown hK hI g_X (by decide) rfl 0 (by decide) (hT _ w_107) (fun _ q => q) rfl rfl rfl (Nat.le_of_ble_eq_true rfl) rfl d_DU_reckon_2 (fun H locs hI => ?_)
    generalize eh_15 : fU h X (13, ow, .inr (1, [.int (nI lot), .int rs, .int (nI L.length), .long (lN ce), .long (lN fr), .ref a1, .ref a2, .ref a3, .ref a4])) = h_15 at hI
    have hX := hX.set (e := .inr (1, [.int (nI lot), .int rs, .int (nI L.length), .long (lN ce), .long (lN fr), .ref a1, .ref a2, .ref a3, .ref a4])) g_X (by decide); rw [eh_15] at hX
    have hF := hF.set (e := .inr (1, [.int (nI lot), .int rs, .int (nI L.length), .long (lN ce), .long (lN fr), .ref a1, .ref a2, .ref a3, .ref a4])) g_X ⟨by decide, by decide, rfl⟩; rw [eh_15] at hF
    have g_a1 : h_15 a1 = some (14, ow, .inl ((G.2.1 0), 6, .inl hv)) := (congrFun eh_15 a1).symm.trans (fU_keep g_a1 (f_neR g_a1 g_X (by decide)))
    have g_a2 : h_15 a2 = some (15, ow, .inl ((G.2.1 0), 5, .inl (fun i => nI (sl i)))) := (congrFun eh_15 a2).symm.trans (fU_keep g_a2 (f_neR g_a2 g_X (by decide)))
    have g_a3 : h_15 a3 = some (16, ow, .inl ((G.2.1 0), 5, .inl (fun i => nI (sr i)))) := (congrFun eh_15 a3).symm.trans (fU_keep g_a3 (f_neR g_a3 g_X (by decide)))
    have g_a4 : h_15 a4 = some (17, ow, .inl ((G.2.1 1), 5, .inr (.inl (fun i => lN (sc i))))) := (congrFun eh_15 a4).symm.trans (fU_keep g_a4 (f_neR g_a4 g_X (by decide)))
    have g_E : h_15 E = some (4, 0, .inr (2, [.int (nI ne), .ref A5, .ref A6])) := (congrFun eh_15 E).symm.trans (fU_keep g_E (f_neR g_E g_X (by decide)))
    have g_A5 : h_15 A5 = some (5, 0, .inl ((G.2.1 4), 10, .inr (.inr (.inr (.inr ge))))) := (congrFun eh_15 A5).symm.trans (fU_keep g_A5 (f_neR g_A5 g_X (by decide)))
    have g_A6 : h_15 A6 = some (6, 0, .inl ((G.2.1 0), 10, .inl (fun i => nI (ef i)))) := (congrFun eh_15 A6).symm.trans (fU_keep g_A6 (f_neR g_A6 g_X (by decide)))
    have g_X : h_15 X = some (13, ow, .inr (1, [.int (nI lot), .int rs, .int (nI L.length), .long (lN ce), .long (lN fr), .ref a1, .ref a2, .ref a3, .ref a4])) := (congrFun eh_15 X).symm.trans (fU_self _ _ _)
    refine lv_aload_n hx hb d_DU_reckon_5 rfl (lv_at hl 0 rfl) ?_
    refine lv_iconst (v := 0) hx hb d_DU_reckon_6 (by decide) ?_
    refine f_put (C := "DutyRules$Duty") (T := T_DU) (N := 9) (fs' := [.int (nI lot), .int rs, .int 0, .long (lN ce), .long (lN fr), .ref a1, .ref a2, .ref a3, .ref a4]) (v := .int 0) hx hb (fun w q => hT w (s_DU w q)) t_DU k_DU n_DU hown hK hI g_X (by decide) rfl 2 (by decide) (hT _ w_111) (fun _ q => q) rfl rfl rfl (Nat.le_of_ble_eq_true rfl) rfl d_DU_reckon_7 (fun H locs hI => ?_)
    generalize eh_16 : fU h_15 X (13, ow, .inr (1, [.int (nI lot), .int rs, .int 0, .long (lN ce), .long (lN fr), .ref a1, .ref a2, .ref a3, .ref a4])) = h_16 at hI
    have hX := hX.set (e := .inr (1, [.int (nI lot), .int rs, .int 0, .long (lN ce), .long (lN fr), .ref a1, .ref a2, .ref a3, .ref a4])) g_X (by decide); rw [eh_16] at hX
    have hF := hF.set (e := .inr (1, [.int (nI lot), .int rs, .int 0, .long (lN ce), .long (lN fr), .ref a1, .ref a2, .ref a3, .ref a4])) g_X ⟨by decide, by decide, rfl⟩; rw [eh_16] at hF
    have g_a1 : h_16 a1 = some (14, ow, .inl ((G.2.1 0), 6, .inl hv)) := (congrFun eh_16 a1).symm.trans (fU_keep g_a1 (f_neR g_a1 g_X (by decide)))
    have g_a2 : h_16 a2 = some (15, ow, .inl ((G.2.1 0), 5, .inl (fun i => nI (sl i)))) := (congrFun eh_16 a2).symm.trans (fU_keep g_a2 (f_neR g_a2 g_X (by decide)))
    have g_a3 : h_16 a3 = some (16, ow, .inl ((G.2.1 0), 5, .inl (fun i => nI (sr i)))) := (congrFun eh_16 a3).symm.trans (fU_keep g_a3 (f_neR g_a3 g_X (by decide)))
    have g_a4 : h_16 a4 = some (17, ow, .inl ((G.2.1 1), 5, .inr (.inl (fun i => lN (sc i))))) := (congrFun eh_16 a4).symm.trans (fU_keep g_a4 (f_neR g_a4 g_X (by decide)))
    have g_E : h_16 E = some (4, 0, .inr (2, [.int (nI ne), .ref A5, .ref A6])) := (congrFun eh_16 E).symm.trans (fU_keep g_E (f_neR g_E g_X (by decide)))
    have g_A5 : h_16 A5 = some (5, 0, .inl ((G.2.1 4), 10, .inr (.inr (.inr (.inr ge))))) := (congrFun eh_16 A5).symm.trans (fU_keep g_A5 (f_neR g_A5 g_X (by decide)))
    have g_A6 : h_16 A6 = some (6, 0, .inl ((G.2.1 0), 10, .inl (fun i => nI (ef i)))) := (congrFun eh_16 A6).symm.trans (fU_keep g_A6 (f_neR g_A6 g_X (by decide)))
    have g_X : h_16 X = some (13, ow, .inr (1, [.int (nI lot), .int rs, .int 0, .long (lN ce), .long (lN fr), .ref a1, .ref a2, .ref a3, .ref a4])) := (congrFun eh_16 X).symm.trans (fU_self _ _ _)
    refine lv_aload_n hx hb d_DU_reckon_10 rfl (lv_at hl 0 rfl) ?_
    refine lv_lconst (v := 0) hx hb d_DU_reckon_11 (by decide) ?_
    refine f_put (C := "DutyRules$Duty") (T := T_DU) (N := 9) (fs' := [.int (nI lot), .int rs, .int 0, .long 0, .long (lN fr), .ref a1, .ref a2, .ref a3, .ref a4]) (v := .long 0) hx hb (fun w q => hT w (s_DU w q)) t_DU k_DU n_DU hown hK hI g_X (by decide) rfl 3 (by decide) (hT _ w_113) (fun _ q => q) rfl rfl rfl (Nat.le_of_ble_eq_true rfl) rfl d_DU_reckon_12 (fun H locs hI => ?_)
    generalize eh_17 : fU h_16 X (13, ow, .inr (1, [.int (nI lot), .int rs, .int 0, .long 0, .long (lN fr), .ref a1, .ref a2, .ref a3, .ref a4])) = h_17 at hI
    have hX := hX.set (e := .inr (1, [.int (nI lot), .int rs, .int 0, .long 0, .long (lN fr), .ref a1, .ref a2, .ref a3, .ref a4])) g_X (by decide); rw [eh_17] at hX
    have hF := hF.set (e := .inr (1, [.int (nI lot), .int rs, .int 0, .long 0, .long (lN fr), .ref a1, .ref a2, .ref a3, .ref a4])) g_X ⟨by decide, by decide, rfl⟩; rw [eh_17] at hF
    have g_a1 : h_17 a1 = some (14, ow, .inl ((G.2.1 0), 6, .inl hv)) := (congrFun eh_17 a1).symm.trans (fU_keep g_a1 (f_neR g_a1 g_X (by decide)))
    have g_a2 : h_17 a2 = some (15, ow, .inl ((G.2.1 0), 5, .inl (fun i => nI (sl i)))) := (congrFun eh_17 a2).symm.trans (fU_keep g_a2 (f_neR g_a2 g_X (by decide)))
    have g_a3 : h_17 a3 = some (16, ow, .inl ((G.2.1 0), 5, .inl (fun i => nI (sr i)))) := (congrFun eh_17 a3).symm.trans (fU_keep g_a3 (f_neR g_a3 g_X (by decide)))
    have g_a4 : h_17 a4 = some (17, ow, .inl ((G.2.1 1), 5, .inr (.inl (fun i => lN (sc i))))) := (congrFun eh_17 a4).symm.trans (fU_keep g_a4 (f_neR g_a4 g_X (by decide)))
    have g_E : h_17 E = some (4, 0, .inr (2, [.int (nI ne), .ref A5, .ref A6])) := (congrFun eh_17 E).symm.trans (fU_keep g_E (f_neR g_E g_X (by decide)))
    have g_A5 : h_17 A5 = some (5, 0, .inl ((G.2.1 4), 10, .inr (.inr (.inr (.inr ge))))) := (congrFun eh_17 A5).symm.trans (fU_keep g_A5 (f_neR g_A5 g_X (by decide)))
    have g_A6 : h_17 A6 = some (6, 0, .inl ((G.2.1 0), 10, .inl (fun i => nI (ef i)))) := (congrFun eh_17 A6).symm.trans (fU_keep g_A6 (f_neR g_A6 g_X (by decide)))
    have g_X : h_17 X = some (13, ow, .inr (1, [.int (nI lot), .int rs, .int 0, .long 0, .long (lN fr), .ref a1, .ref a2, .ref a3, .ref a4])) := (congrFun eh_17 X).symm.trans (fU_self _ _ _)
    refine lv_aload_n hx hb d_DU_reckon_15 rfl (lv_at hl 0 rfl) ?_
    refine lv_lconst (v := 0) hx hb d_DU_reckon_16 (by decide) ?_
    refine f_put (C := "DutyRules$Duty") (T := T_DU) (N := 9) (fs' := [.int (nI lot), .int rs, .int 0, .long 0, .long 0, .ref a1, .ref a2, .ref a3, .ref a4]) (v := .long 0) hx hb (fun w q => hT w (s_DU w q)) t_DU k_DU n_DU hown hK hI g_X (by decide) rfl 4 (by decide) (hT _ w_115) (fun _ q => q) rfl rfl rfl (Nat.le_of_ble_eq_true rfl) rfl d_DU_reckon_17 (fun H locs hI => ?_)
    generalize eh_18 : fU h_17 X (13, ow, .inr (1, [.int (nI lot), .int rs, .int 0, .long 0, .long 0, .ref a1, .ref a2, .ref a3, .ref a4])) = h_18 at hI
    have hX := hX.set (e := .inr (1, [.int (nI lot), .int rs, .int 0, .long 0, .long 0, .ref a1, .ref a2, .ref a3, .ref a4])) g_X (by decide); rw [eh_18] at hX
    have hF := hF.set (e := .inr (1, [.int (nI lot), .int rs, .int 0, .long 0, .long 0, .ref a1, .ref a2, .ref a3, .ref a4])) g_X ⟨by decide, by decide, rfl⟩; rw [eh_18] at hF
    have g_a1 : h_18 a1 = some (14, ow, .inl ((G.2.1 0), 6, .inl hv)) := (congrFun eh_18 a1).symm.trans (fU_keep g_a1 (f_neR g_a1 g_X (by decide)))
    have g_a2 : h_18 a2 = some (15, ow, .inl ((G.2.1 0), 5, .inl (fun i => nI (sl i)))) := (congrFun eh_18 a2).symm.trans (fU_keep g_a2 (f_neR g_a2 g_X (by decide)))
    have g_a3 : h_18 a3 = some (16, ow, .inl ((G.2.1 0), 5, .inl (fun i => nI (sr i)))) := (congrFun eh_18 a3).symm.trans (fU_keep g_a3 (f_neR g_a3 g_X (by decide)))
    have g_a4 : h_18 a4 = some (17, ow, .inl ((G.2.1 1), 5, .inr (.inl (fun i => lN (sc i))))) := (congrFun eh_18 a4).symm.trans (fU_keep g_a4 (f_neR g_a4 g_X (by decide)))
    have g_E : h_18 E = some (4, 0, .inr (2, [.int (nI ne), .ref A5, .ref A6])) := (congrFun eh_18 E).symm.trans (fU_keep g_E (f_neR g_E g_X (by decide)))
    have g_A5 : h_18 A5 = some (5, 0, .inl ((G.2.1 4), 10, .inr (.inr (.inr (.inr ge))))) := (congrFun eh_18 A5).symm.trans (fU_keep g_A5 (f_neR g_A5 g_X (by decide)))
    have g_A6 : h_18 A6 = some (6, 0, .inl ((G.2.1 0), 10, .inl (fun i => nI (ef i)))) := (congrFun eh_18 A6).symm.trans (fU_keep g_A6 (f_neR g_A6 g_X (by decide)))
    have g_X : h_18 X = some (13, ow, .inr (1, [.int (nI lot), .int rs, .int 0, .long 0, .long 0, .ref a1, .ref a2, .ref a3, .ref a4])) := (congrFun eh_18 X).symm.trans (fU_self _ _ _)
    refine lv_aload_n hx hb d_DU_reckon_20 rfl (lv_at hl 1 rfl) ?_
    refine lv_iload hx hb d_DU_reckon_21 (lv_at hl 4 rfl) ?_
    refine f_callq hI (f_runV C hI (c_ED_heldOn l G h_18 _ E ne A5 A6 ge ef day g_E g_A5 g_A6 bne bef bday) gm_ED_heldOn w_627 w_628 w_626 g_E rfl rfl rfl hl.1 rfl (Nat.le_of_ble_eq_true rfl) ⟨Nat.le_of_ble_eq_true rfl, Nat.le_of_ble_eq_true rfl⟩ d_DU_reckon_23 ⟨Nat.le_of_ble_eq_true rfl, Nat.le_of_ble_eq_true rfl⟩) (fun r_19 h9 H9 locs hp9 hX9 hz9 hI => ?_)
    obtain ⟨rfl, e9q⟩ := hp9
    rw [e9q] at hI
    clear hX9 e9q
    rw [eE]
    rw [show (some e9).bind ge = some R from hgR]
    show W _ _ _ _ _ _ _ _ _ _ _ _ _ _ _ (F0 m _ ls [.ref R])
    refine lv_astore (lv' := [(6, .ref R), (0, .ref X), (1, .ref E), (2, .ref F), (3, .int (nI lot)), (4, .int (nI day)), (5, .int (nI on))]) hx hb d_DU_reckon_26 hl (by decide) rfl (fun ls hl => ?_)
    refine lv_aload hx hb d_DU_reckon_28 (lv_at hl 0 rfl) ?_
    refine lv_ifnonnull (tgt := 40) hx hb d_DU_reckon_30 (by decide) ?_
    refine lv_iconst (v := 0) hx hb d_DU_reckon_40 (by decide) ?_
    refine lv_istore (lv' := [(7, .int 0), (6, .ref R), (0, .ref X), (1, .ref E), (2, .ref F), (3, .int (nI lot)), (4, .int (nI day)), (5, .int (nI on))]) hx hb d_DU_reckon_41 hl (by decide) rfl (fun ls hl => ?_)
    refine J43 6 0 (by omega) hv (fun j hj => absurd hj (Nat.not_lt_zero j)) _ _ _ g_X g_a1 g_a2 g_a3 g_a4 hF hX hI ls ?_
    exact lv_sub hl [2, 3, 4, 5, 6, 7, 1, 0] rfl
