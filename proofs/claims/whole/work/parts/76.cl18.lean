theorem gm_FS_init : gM y_FS_init b_FS_init 1 none 0 := ⟨w_86, w_7, ⟨by decide, by decide⟩, by decide +kernel⟩
set_option maxHeartbeats 4000000 in
set_option maxRecDepth 100000 in
/-- FS_init  -/
theorem c_FS_init (l : Launch) (G : gG) (h : fH) (sz : Nat) (F : Nat) (g_F : h F = some (10, 0, .inr (4, [.int 0, .int 0, .null]))) : cM l y_FS_init b_FS_init 1 none { frames := 1, cells := 1, slots := 180, locals := 20 } G [.ref F] h sz (cQv G h sz (fun h' => (∃ A, cFo G h' F A (fun _ => 0) (fun _ => none) 0 0 (fun _ => 0) (fun _ => 0) (fun _ => 0) (fun _ => 0) (fun _ => 0)) ∧ fF (inR [10]) h h')) := by
  refine f_start (by decide) (Nat.le_of_ble_eq_true rfl) ?_
  intro p e s m below meth c ls C hr hsz hI hl
  obtain ⟨hx, hb, hml, hown, hnm, hlk, hT, hG, hZ⟩ := id C
  have hK := hG.1
  have hX : fX h sz h := fX.rf
  have hl : lv_has ls 1 [(0, .ref F)] := hl
  have hF : fF (inR [10]) h h := fF.rf
  refine lv_aload_n hx hb d_FS_init_0 rfl (lv_at hl 0 rfl) ?_
  refine W.objInit hx hb hown (hT _ w_87) (hT _ w_28) (hT _ w_29) rfl (by rw [hml]; exact hl.1) rfl d_FS_init_1 (Nat.le_of_ble_eq_true rfl) (Nat.le_of_ble_eq_true rfl) ?_
  refine W.eq (g2 := F0 m 4 ls []) rfl ?_
  refine lv_aload_n hx hb d_FS_init_4 rfl (lv_at hl 0 rfl) ?_
  refine lv_iconst (v := 0) hx hb d_FS_init_5 (by decide) ?_
  refine f_put (C := "DutyRules$Facts") (T := T_FS) (N := 3) (fs' := [.int 0, .int 0, .null]) (v := .int 0) hx hb (fun w q => hT w (s_FS w q)) t_FS k_FS n_FS hown hK hI g_F (by decide) rfl 0 (by decide) (hT _ w_90) (fun _ q => q) rfl rfl rfl (Nat.le_of_ble_eq_true rfl) rfl d_FS_init_6 (fun H locs hI => ?_)
  generalize eh_1 : fU h F (10, 0, .inr (4, [.int 0, .int 0, .null])) = h_1 at hI
  have hX := hX.set (e := .inr (4, [.int 0, .int 0, .null])) g_F (by decide); rw [eh_1] at hX
  have hF := hF.set (e := .inr (4, [.int 0, .int 0, .null])) g_F (by decide); rw [eh_1] at hF
  have g_F : h_1 F = some (10, 0, .inr (4, [.int 0, .int 0, .null])) := (congrFun eh_1 F).symm.trans (fU_self _ _ _)
  refine lv_aload_n hx hb d_FS_init_9 rfl (lv_at hl 0 rfl) ?_
  refine lv_iconst (v := 0) hx hb d_FS_init_10 (by decide) ?_
  refine f_put (C := "DutyRules$Facts") (T := T_FS) (N := 3) (fs' := [.int 0, .int 0, .null]) (v := .int 0) hx hb (fun w q => hT w (s_FS w q)) t_FS k_FS n_FS hown hK hI g_F (by decide) rfl 1 (by decide) (hT _ w_91) (fun _ q => q) rfl rfl rfl (Nat.le_of_ble_eq_true rfl) rfl d_FS_init_11 (fun H locs hI => ?_)
  generalize eh_2 : fU h_1 F (10, 0, .inr (4, [.int 0, .int 0, .null])) = h_2 at hI
  have hX := hX.set (e := .inr (4, [.int 0, .int 0, .null])) g_F (by decide); rw [eh_2] at hX
  have hF := hF.set (e := .inr (4, [.int 0, .int 0, .null])) g_F (by decide); rw [eh_2] at hF
  have g_F : h_2 F = some (10, 0, .inr (4, [.int 0, .int 0, .null])) := (congrFun eh_2 F).symm.trans (fU_self _ _ _)
  refine lv_aload_n hx hb d_FS_init_14 rfl (lv_at hl 0 rfl) ?_
  refine lv_sipush (v := 180) hx hb d_FS_init_15 (by decide) ?_
  have hzN := hI.2.2.2.1
  refine f_newq (N' := 180) (C := "DutyRules$Fact") (cA := (G.2.1 5)) hx hb hown (hT _ w_88) (hG.2.2.1 _ (by decide)) hI (f_RA (hK.2 5 _ rfl).2) (by decide) rfl (by decide) 11 0 (Nat.le_of_ble_eq_true rfl) (Nat.le_of_ble_eq_true rfl) d_FS_init_18 (fun q_3 H eq_3 zq_3 nq_3 hI => ?_)
  generalize eh_4 : fU h_2 q_3 (11, 0, .inl ((G.2.1 5), 180, .inr (.inr (.inr (.inr (fun _ => none)))))) = h_4 at hI
  have hX := hX.new (e := .inl ((G.2.1 5), 180, .inr (.inr (.inr (.inr (fun _ => none)))))) (r := 11) (o := 0) nq_3 (by omega); rw [eh_4] at hX
  have hF := hF.new (c := (11, 0, .inl ((G.2.1 5), 180, .inr (.inr (.inr (.inr (fun _ => none))))))) nq_3; rw [eh_4] at hF
  have g_F : h_4 F = some (10, 0, .inr (4, [.int 0, .int 0, .null])) := (congrFun eh_4 F).symm.trans (fU_keep g_F (f_neN g_F nq_3))
  have g_q_3 : h_4 q_3 = some (11, 0, .inl ((G.2.1 5), 180, .inr (.inr (.inr (.inr (fun _ => none)))))) := (congrFun eh_4 q_3).symm.trans (fU_self _ _ _)
  refine f_putF (C := "DutyRules$Facts") (T := T_FS) (N := 3) (fs' := [.int 0, .int 0, .ref q_3]) (v := .ref q_3) hx hb (fun w q => hT w (s_FS w q)) t_FS k_FS n_FS hown hK hI g_F (by decide) rfl 2 (by decide) (hT _ w_93) (fun _ q => q) rfl hnm rfl rfl rfl (Nat.le_of_ble_eq_true rfl) rfl d_FS_init_21 (fun H locs hI => ?_)
  generalize eh_5 : fU h_4 F (10, 0, .inr (4, [.int 0, .int 0, .ref q_3])) = h_5 at hI
  have hX := hX.set (e := .inr (4, [.int 0, .int 0, .ref q_3])) g_F (by decide); rw [eh_5] at hX
  have hF := hF.set (e := .inr (4, [.int 0, .int 0, .ref q_3])) g_F (by decide); rw [eh_5] at hF
  have g_q_3 : h_5 q_3 = some (11, 0, .inl ((G.2.1 5), 180, .inr (.inr (.inr (.inr (fun _ => none)))))) := (congrFun eh_5 q_3).symm.trans (fU_keep g_q_3 (f_neR g_q_3 g_F (by decide)))
  have g_F : h_5 F = some (10, 0, .inr (4, [.int 0, .int 0, .ref q_3])) := (congrFun eh_5 F).symm.trans (fU_self _ _ _)
  exact f_vret C hr hI ⟨⟨q_3, g_F, g_q_3, fun _ _ _ _ => rfl, fun i hi => absurd hi (Nat.not_lt_zero i), by decide, by decide, fun _ => (Nat.zero_lt_succ _), fun _ => (Nat.zero_lt_succ _), fun _ => Nat.zero_le _, fun _ => Nat.zero_le _, fun _ => Nat.zero_le _⟩, hF⟩ hX (Nat.le_of_ble_eq_true rfl) (Nat.le_of_ble_eq_true rfl) d_FS_init_24
theorem gm_DR_init : gM y_DR_init b_DR_init 1 none 0 := ⟨w_26, w_1, ⟨by decide, by decide⟩, by decide +kernel⟩
set_option maxHeartbeats 4000000 in
set_option maxRecDepth 100000 in
/-- DR_init  -/
theorem c_DR_init (l : Launch) (G : gG) (h : fH) (sz : Nat) (X : Nat) (g_X : h X = some (1, 0, .inr (0, [.null, .null, .null, .null, .null, .null, .null, .int 0, .null, .null]))) : cM l y_DR_init b_DR_init 1 none { frames := 3, cells := 20, slots := 489, locals := 61 } G [.ref X] h sz (cQv G h sz (fun h' => ∃ T E F D I R A : Nat, h' X = some (1, 0, .inr (0, [.ref T, .ref E, .ref F, .ref D, .ref I, .ref R, .ref (G.2.2.2 0), .int 0, .null, .null])) ∧ bS G h' 2 3 0 T 16 0 (fun _ => 0) ∧ cEd G h' E 0 (fun _ => 0) (fun _ => 0) (fun _ => 0) ∧ cFo G h' F A (fun _ => 0) (fun _ => none) 0 0 (fun _ => 0) (fun _ => 0) (fun _ => 0) (fun _ => 0) (fun _ => 0) ∧ cDu G h' D 0 (-1) (-1) (fun _ => 0) d0 ∧ cDu G h' I 1 (-1) (-1) (fun _ => 0) d0 ∧ rU G h' 7 8 9 R 0 (fun _ => 0) (fun _ => 0) ∧ fF (inR [1, 2, 4, 10, 13, 14, 15, 16, 17, 28, 29, 30]) h h')) := by
  refine f_start (by decide) (Nat.le_of_ble_eq_true rfl) ?_
  intro p e s m below meth c ls C hr hsz hI hl
  obtain ⟨hx, hb, hml, hown, hnm, hlk, hT, hG, hZ⟩ := id C
  have hK := hG.1
  have hX : fX h sz h := fX.rf
  have hl : lv_has ls 1 [(0, .ref X)] := hl
  have hF : fF (inR [1, 2, 4, 10, 13, 14, 15, 16, 17, 28, 29, 30]) h h := fF.rf
  refine lv_aload_n hx hb d_DR_init_0 rfl (lv_at hl 0 rfl) ?_
  refine W.objInit hx hb hown (hT _ w_27) (hT _ w_28) (hT _ w_29) rfl (by rw [hml]; exact hl.1) rfl d_DR_init_1 (Nat.le_of_ble_eq_true rfl) (Nat.le_of_ble_eq_true rfl) ?_
  refine W.eq (g2 := F0 m 4 ls []) rfl ?_
  refine lv_aload_n hx hb d_DR_init_4 rfl (lv_at hl 0 rfl) ?_
  have hzN := hI.2.2.2.1
  refine f_new (ci := 9) (C := "java/lang/StringBuilder") (T := T_SB) (N := 4) (N2 := 4) (fs := [.null, .int 0, .int 0, .int 0]) hx hb (fun w q => hT w (s_SB w q)) t_SB k_SB hown (hT _ w_30) (hT _ w_31) (hT _ w_3) hK hI rfl (fun j hj => by rcases (show j = 0 ∨ j = 1 ∨ j = 2 ∨ j = 3 by omega) with rfl | rfl | rfl | rfl <;> rfl) 2 0 (Nat.le_of_ble_eq_true rfl) (Nat.le_of_ble_eq_true rfl) d_DR_init_5 (fun q_1 H eq_1 zq_1 nq_1 hI => ?_)
  generalize eh_2 : fU h q_1 (2, 0, .inr (9, [.null, .int 0, .int 0, .int 0])) = h_2 at hI
  have hX := hX.new (e := .inr (9, [.null, .int 0, .int 0, .int 0])) (r := 2) (o := 0) nq_1 (by omega); rw [eh_2] at hX
  have hF := hF.new (c := (2, 0, .inr (9, [.null, .int 0, .int 0, .int 0]))) nq_1; rw [eh_2] at hF
  have g_X : h_2 X = some (1, 0, .inr (0, [.null, .null, .null, .null, .null, .null, .null, .int 0, .null, .null])) := (congrFun eh_2 X).symm.trans (fU_keep g_X (f_neN g_X nq_1))
  have g_q_1 : h_2 q_1 = some (2, 0, .inr (9, [.null, .int 0, .int 0, .int 0])) := (congrFun eh_2 q_1).symm.trans (fU_self _ _ _)
  refine lv_dup hx hb d_DR_init_8 rfl ?_
  have hzA := hI.2.2.2.1
  refine f_callv hI (f_runI C hI (c_SB_init l G h_2 _ q_1 2 3 0 (by decide) (by decide) (by decide) g_q_1) gm_SB_init w_33 rfl w_32 rfl hl.1 rfl (Nat.le_of_ble_eq_true rfl) ⟨Nat.le_of_ble_eq_true rfl, Nat.le_of_ble_eq_true rfl⟩ d_DR_init_9 ⟨by first | exact Nat.le_of_ble_eq_true rfl | ((try dsimp only); omega), by first | exact Nat.le_of_ble_eq_true rfl | ((try dsimp only); omega)⟩) (fun h9 H9 locs hp9 hX9 hz9 hI => ?_)
  obtain ⟨hB, hF9⟩ := hp9
  have hX := fX.tr (Nat.le_trans (Nat.le_of_eq hsz.symm) hzA) hX hX9
  have g_X := hF9 _ _ _ _ g_X (by decide)
  have hF := hF.tr (hF9.mono (fun r9 _ z => (by simp [inR] at z ⊢; omega : inR [1, 2, 4, 10, 13, 14, 15, 16, 17, 28, 29, 30] r9 _)))
  have g_q_1 : ∃ c9, h9 q_1 = some c9 := ⟨_, hB.choose_spec.choose_spec.choose_spec.1⟩
  refine f_putF (C := "DutyRules") (T := T_DR) (N := 10) (fs' := [.ref q_1, .null, .null, .null, .null, .null, .null, .int 0, .null, .null]) (v := .ref q_1) hx hb (fun w q => hT w (s_DR w q)) t_DR k_DR n_DR hown hK hI g_X (by decide) rfl 0 (by decide) (hT _ w_163) (fun _ q => q) rfl hnm rfl rfl rfl (Nat.le_of_ble_eq_true rfl) rfl d_DR_init_12 (fun H locs hI => ?_)
  generalize eh_4 : fU h9 X (1, 0, .inr (0, [.ref q_1, .null, .null, .null, .null, .null, .null, .int 0, .null, .null])) = h_4 at hI
  have hX := hX.set (e := .inr (0, [.ref q_1, .null, .null, .null, .null, .null, .null, .int 0, .null, .null])) g_X (by decide); rw [eh_4] at hX
  have hF := hF.set (e := .inr (0, [.ref q_1, .null, .null, .null, .null, .null, .null, .int 0, .null, .null])) g_X (by decide); rw [eh_4] at hF
  have hW9 : fF (inR [1]) h9 h_4 := by rw [← eh_4]; exact fF.rf.set g_X (by show _ ∈ _; decide)
  have hB := hB.keepF hW9 (by show ¬ _ ∈ _; decide) (by show ¬ _ ∈ _; decide)
  have g_X : h_4 X = some (1, 0, .inr (0, [.ref q_1, .null, .null, .null, .null, .null, .null, .int 0, .null, .null])) := (congrFun eh_4 X).symm.trans (fU_self _ _ _)
  refine lv_aload_n hx hb d_DR_init_15 rfl (lv_at hl 0 rfl) ?_
  have hzN := hI.2.2.2.1
  refine f_new (ci := 2) (C := "DutyRules$Editions") (T := T_ED) (N := 3) (N2 := 3) (fs := [.int 0, .null, .null]) hx hb (fun w q => hT w (s_ED w q)) t_ED k_ED hown (hT _ w_63) (hT _ w_64) (hT _ w_6) hK hI rfl (fun j hj => by rcases (show j = 0 ∨ j = 1 ∨ j = 2 by omega) with rfl | rfl | rfl <;> rfl) 4 0 (Nat.le_of_ble_eq_true rfl) (Nat.le_of_ble_eq_true rfl) d_DR_init_16 (fun q_5 H eq_5 zq_5 nq_5 hI => ?_)
  generalize eh_6 : fU h_4 q_5 (4, 0, .inr (2, [.int 0, .null, .null])) = h_6 at hI
  have hX := hX.new (e := .inr (2, [.int 0, .null, .null])) (r := 4) (o := 0) nq_5 (by omega); rw [eh_6] at hX
  have hF := hF.new (c := (4, 0, .inr (2, [.int 0, .null, .null]))) nq_5; rw [eh_6] at hF
  have hW9 : fF (inR []) h_4 h_6 := by rw [← eh_6]; exact fF.rf.new nq_5
  have hB := hB.keepF hW9 (by show ¬ _ ∈ _; decide) (by show ¬ _ ∈ _; decide)
  have g_X : h_6 X = some (1, 0, .inr (0, [.ref q_1, .null, .null, .null, .null, .null, .null, .int 0, .null, .null])) := (congrFun eh_6 X).symm.trans (fU_keep g_X (f_neN g_X nq_5))
  have g_q_5 : h_6 q_5 = some (4, 0, .inr (2, [.int 0, .null, .null])) := (congrFun eh_6 q_5).symm.trans (fU_self _ _ _)
  refine lv_dup hx hb d_DR_init_19 rfl ?_
  have hzA := hI.2.2.2.1
  refine f_callv hI (f_runI C hI (c_ED_init l G h_6 _ q_5 (fun _ => 0) (fun _ => 0) g_q_5) gm_ED_init w_66 rfl w_65 rfl hl.1 rfl (Nat.le_of_ble_eq_true rfl) ⟨Nat.le_of_ble_eq_true rfl, Nat.le_of_ble_eq_true rfl⟩ d_DR_init_20 ⟨by first | exact Nat.le_of_ble_eq_true rfl | ((try dsimp only); omega), by first | exact Nat.le_of_ble_eq_true rfl | ((try dsimp only); omega)⟩) (fun h9 H9 locs hp9 hX9 hz9 hI => ?_)
  obtain ⟨hEd, hF9⟩ := hp9
  have hX := fX.tr (Nat.le_trans (Nat.le_of_eq hsz.symm) hzA) hX hX9
  have g_X := hF9 _ _ _ _ g_X (by decide)
  have hB := hB.keepF hF9 (by show ¬ _ ∈ _; decide) (by show ¬ _ ∈ _; decide)
  have hF := hF.tr (hF9.mono (fun r9 _ z => (by simp [inR] at z ⊢; omega : inR [1, 2, 4, 10, 13, 14, 15, 16, 17, 28, 29, 30] r9 _)))
  have g_q_5 : ∃ c9, h9 q_5 = some c9 := ⟨_, hEd.choose_spec.choose_spec.choose_spec.1⟩
  refine f_putF (C := "DutyRules") (T := T_DR) (N := 10) (fs' := [.ref q_1, .ref q_5, .null, .null, .null, .null, .null, .int 0, .null, .null]) (v := .ref q_5) hx hb (fun w q => hT w (s_DR w q)) t_DR k_DR n_DR hown hK hI g_X (by decide) rfl 1 (by decide) (hT _ w_164) (fun _ q => q) rfl hnm rfl rfl rfl (Nat.le_of_ble_eq_true rfl) rfl d_DR_init_23 (fun H locs hI => ?_)
  generalize eh_8 : fU h9 X (1, 0, .inr (0, [.ref q_1, .ref q_5, .null, .null, .null, .null, .null, .int 0, .null, .null])) = h_8 at hI
  have hX := hX.set (e := .inr (0, [.ref q_1, .ref q_5, .null, .null, .null, .null, .null, .int 0, .null, .null])) g_X (by decide); rw [eh_8] at hX
  have hF := hF.set (e := .inr (0, [.ref q_1, .ref q_5, .null, .null, .null, .null, .null, .int 0, .null, .null])) g_X (by decide); rw [eh_8] at hF
  have hW9 : fF (inR [1]) h9 h_8 := by rw [← eh_8]; exact fF.rf.set g_X (by show _ ∈ _; decide)
  have hB := hB.keepF hW9 (by show ¬ _ ∈ _; decide) (by show ¬ _ ∈ _; decide)
  have hEd := hEd.keepF hW9 (by decide)
  have g_X : h_8 X = some (1, 0, .inr (0, [.ref q_1, .ref q_5, .null, .null, .null, .null, .null, .int 0, .null, .null])) := (congrFun eh_8 X).symm.trans (fU_self _ _ _)
  refine lv_aload_n hx hb d_DR_init_26 rfl (lv_at hl 0 rfl) ?_
  have hzN := hI.2.2.2.1
  refine f_new (ci := 4) (C := "DutyRules$Facts") (T := T_FS) (N := 3) (N2 := 3) (fs := [.int 0, .int 0, .null]) hx hb (fun w q => hT w (s_FS w q)) t_FS k_FS hown (hT _ w_82) (hT _ w_83) (hT _ w_7) hK hI rfl (fun j hj => by rcases (show j = 0 ∨ j = 1 ∨ j = 2 by omega) with rfl | rfl | rfl <;> rfl) 10 0 (Nat.le_of_ble_eq_true rfl) (Nat.le_of_ble_eq_true rfl) d_DR_init_27 (fun q_9 H eq_9 zq_9 nq_9 hI => ?_)
  generalize eh_10 : fU h_8 q_9 (10, 0, .inr (4, [.int 0, .int 0, .null])) = h_10 at hI
  have hX := hX.new (e := .inr (4, [.int 0, .int 0, .null])) (r := 10) (o := 0) nq_9 (by omega); rw [eh_10] at hX
  have hF := hF.new (c := (10, 0, .inr (4, [.int 0, .int 0, .null]))) nq_9; rw [eh_10] at hF
  have hW9 : fF (inR []) h_8 h_10 := by rw [← eh_10]; exact fF.rf.new nq_9
  have hB := hB.keepF hW9 (by show ¬ _ ∈ _; decide) (by show ¬ _ ∈ _; decide)
  have hEd := hEd.keepF hW9 (by decide)
  have g_X : h_10 X = some (1, 0, .inr (0, [.ref q_1, .ref q_5, .null, .null, .null, .null, .null, .int 0, .null, .null])) := (congrFun eh_10 X).symm.trans (fU_keep g_X (f_neN g_X nq_9))
  have g_q_9 : h_10 q_9 = some (10, 0, .inr (4, [.int 0, .int 0, .null])) := (congrFun eh_10 q_9).symm.trans (fU_self _ _ _)
  refine lv_dup hx hb d_DR_init_30 rfl ?_
  have hzA := hI.2.2.2.1
  refine f_callv hI (f_runI C hI (c_FS_init l G h_10 _ q_9 g_q_9) gm_FS_init w_85 rfl w_84 rfl hl.1 rfl (Nat.le_of_ble_eq_true rfl) ⟨Nat.le_of_ble_eq_true rfl, Nat.le_of_ble_eq_true rfl⟩ d_DR_init_31 ⟨by first | exact Nat.le_of_ble_eq_true rfl | ((try dsimp only); omega), by first | exact Nat.le_of_ble_eq_true rfl | ((try dsimp only); omega)⟩) (fun h9 H9 locs hp9 hX9 hz9 hI => ?_)
  obtain ⟨⟨A, hC⟩, hF9⟩ := hp9
  have hX := fX.tr (Nat.le_trans (Nat.le_of_eq hsz.symm) hzA) hX hX9
  have g_X := hF9 _ _ _ _ g_X (by decide)
  have hB := hB.keepF hF9 (by show ¬ _ ∈ _; decide) (by show ¬ _ ∈ _; decide)
  have hEd := hEd.keepF hF9 (by decide)
  have hF := hF.tr (hF9.mono (fun r9 _ z => (by simp [inR] at z ⊢; omega : inR [1, 2, 4, 10, 13, 14, 15, 16, 17, 28, 29, 30] r9 _)))
  have g_q_9 : ∃ c9, h9 q_9 = some c9 := ⟨_, hC.1⟩
  refine f_putF (C := "DutyRules") (T := T_DR) (N := 10) (fs' := [.ref q_1, .ref q_5, .ref q_9, .null, .null, .null, .null, .int 0, .null, .null]) (v := .ref q_9) hx hb (fun w q => hT w (s_DR w q)) t_DR k_DR n_DR hown hK hI g_X (by decide) rfl 2 (by decide) (hT _ w_165) (fun _ q => q) rfl hnm rfl rfl rfl (Nat.le_of_ble_eq_true rfl) rfl d_DR_init_34 (fun H locs hI => ?_)
  generalize eh_12 : fU h9 X (1, 0, .inr (0, [.ref q_1, .ref q_5, .ref q_9, .null, .null, .null, .null, .int 0, .null, .null])) = h_12 at hI
  have hX := hX.set (e := .inr (0, [.ref q_1, .ref q_5, .ref q_9, .null, .null, .null, .null, .int 0, .null, .null])) g_X (by decide); rw [eh_12] at hX
  have hF := hF.set (e := .inr (0, [.ref q_1, .ref q_5, .ref q_9, .null, .null, .null, .null, .int 0, .null, .null])) g_X (by decide); rw [eh_12] at hF
  have hW9 : fF (inR [1]) h9 h_12 := by rw [← eh_12]; exact fF.rf.set g_X (by show _ ∈ _; decide)
  have hB := hB.keepF hW9 (by show ¬ _ ∈ _; decide) (by show ¬ _ ∈ _; decide)
  have hEd := hEd.keepF hW9 (by decide)
  have hC := hC.keepF hW9 (by decide) (by decide) (by decide)
  have g_X : h_12 X = some (1, 0, .inr (0, [.ref q_1, .ref q_5, .ref q_9, .null, .null, .null, .null, .int 0, .null, .null])) := (congrFun eh_12 X).symm.trans (fU_self _ _ _)
  refine lv_aload_n hx hb d_DR_init_37 rfl (lv_at hl 0 rfl) ?_
  have hzN := hI.2.2.2.1
  refine f_new (ci := 1) (C := "DutyRules$Duty") (T := T_DU) (N := 9) (N2 := 9) (fs := [.int 0, .int 0, .int 0, .long 0, .long 0, .null, .null, .null, .null]) hx hb (fun w q => hT w (s_DU w q)) t_DU k_DU hown (hT _ w_101) (hT _ w_102) (hT _ w_8) hK hI rfl (fun j hj => by rcases (show j = 0 ∨ j = 1 ∨ j = 2 ∨ j = 3 ∨ j = 4 ∨ j = 5 ∨ j = 6 ∨ j = 7 ∨ j = 8 by omega) with rfl | rfl | rfl | rfl | rfl | rfl | rfl | rfl | rfl <;> rfl) 13 0 (Nat.le_of_ble_eq_true rfl) (Nat.le_of_ble_eq_true rfl) d_DR_init_38 (fun q_13 H eq_13 zq_13 nq_13 hI => ?_)
  generalize eh_14 : fU h_12 q_13 (13, 0, .inr (1, [.int 0, .int 0, .int 0, .long 0, .long 0, .null, .null, .null, .null])) = h_14 at hI
  have hX := hX.new (e := .inr (1, [.int 0, .int 0, .int 0, .long 0, .long 0, .null, .null, .null, .null])) (r := 13) (o := 0) nq_13 (by omega); rw [eh_14] at hX
  have hF := hF.new (c := (13, 0, .inr (1, [.int 0, .int 0, .int 0, .long 0, .long 0, .null, .null, .null, .null]))) nq_13; rw [eh_14] at hF
  have hW9 : fF (inR []) h_12 h_14 := by rw [← eh_14]; exact fF.rf.new nq_13
  have hB := hB.keepF hW9 (by show ¬ _ ∈ _; decide) (by show ¬ _ ∈ _; decide)
  have hEd := hEd.keepF hW9 (by decide)
  have hC := hC.keepF hW9 (by decide) (by decide) (by decide)
  have g_X : h_14 X = some (1, 0, .inr (0, [.ref q_1, .ref q_5, .ref q_9, .null, .null, .null, .null, .int 0, .null, .null])) := (congrFun eh_14 X).symm.trans (fU_keep g_X (f_neN g_X nq_13))
  have g_q_13 : h_14 q_13 = some (13, 0, .inr (1, [.int 0, .int 0, .int 0, .long 0, .long 0, .null, .null, .null, .null])) := (congrFun eh_14 q_13).symm.trans (fU_self _ _ _)
  refine lv_dup hx hb d_DR_init_41 rfl ?_
  have hzA := hI.2.2.2.1
  refine f_callv hI (f_runI C hI (c_DU_init l G h_14 _ q_13 0 g_q_13) gm_DU_init w_104 rfl w_103 rfl hl.1 rfl (Nat.le_of_ble_eq_true rfl) ⟨Nat.le_of_ble_eq_true rfl, Nat.le_of_ble_eq_true rfl⟩ d_DR_init_42 ⟨by first | exact Nat.le_of_ble_eq_true rfl | ((try dsimp only); omega), by first | exact Nat.le_of_ble_eq_true rfl | ((try dsimp only); omega)⟩) (fun h9 H9 locs hp9 hX9 hz9 hI => ?_)
  obtain ⟨hD0, hF9⟩ := hp9
  have hX := fX.tr (Nat.le_trans (Nat.le_of_eq hsz.symm) hzA) hX hX9
  have g_X := hF9 _ _ _ _ g_X (fun q => by have := q.1; omega)
  have hB := hB.keepF hF9 (fun q => by have := q.1; omega) (fun q => by have := q.1; omega)
  have hEd := hEd.keepD hF9
  have hC := hC.keepD hF9
  have hF := hF.tr (hF9.mono (fun r9 o9 z => (by obtain ⟨z1, z2, z3⟩ := z; simp [inR]; omega : inR [1, 2, 4, 10, 13, 14, 15, 16, 17, 28, 29, 30] r9 o9)))
  have g_q_13 : ∃ c9, h9 q_13 = some c9 := ⟨_, hD0.choose_spec.choose_spec.choose_spec.choose_spec.choose_spec.choose_spec.choose_spec.1⟩
  refine f_putF (C := "DutyRules") (T := T_DR) (N := 10) (fs' := [.ref q_1, .ref q_5, .ref q_9, .ref q_13, .null, .null, .null, .int 0, .null, .null]) (v := .ref q_13) hx hb (fun w q => hT w (s_DR w q)) t_DR k_DR n_DR hown hK hI g_X (by decide) rfl 3 (by decide) (hT _ w_166) (fun _ q => q) rfl hnm rfl rfl rfl (Nat.le_of_ble_eq_true rfl) rfl d_DR_init_45 (fun H locs hI => ?_)
  generalize eh_16 : fU h9 X (1, 0, .inr (0, [.ref q_1, .ref q_5, .ref q_9, .ref q_13, .null, .null, .null, .int 0, .null, .null])) = h_16 at hI
  have hX := hX.set (e := .inr (0, [.ref q_1, .ref q_5, .ref q_9, .ref q_13, .null, .null, .null, .int 0, .null, .null])) g_X (by decide); rw [eh_16] at hX
  have hF := hF.set (e := .inr (0, [.ref q_1, .ref q_5, .ref q_9, .ref q_13, .null, .null, .null, .int 0, .null, .null])) g_X (by decide); rw [eh_16] at hF
  have hW9 : fF (inR [1]) h9 h_16 := by rw [← eh_16]; exact fF.rf.set g_X (by show _ ∈ _; decide)
  have hB := hB.keepF hW9 (by show ¬ _ ∈ _; decide) (by show ¬ _ ∈ _; decide)
  have hEd := hEd.keepF hW9 (by decide)
  have hC := hC.keepF hW9 (by decide) (by decide) (by decide)
  have hD0 := hD0.keepF hW9 (fun r9 q1 q2 q => by simp [inR, inD] at q; (try omega))
  have g_X : h_16 X = some (1, 0, .inr (0, [.ref q_1, .ref q_5, .ref q_9, .ref q_13, .null, .null, .null, .int 0, .null, .null])) := (congrFun eh_16 X).symm.trans (fU_self _ _ _)
  refine lv_aload_n hx hb d_DR_init_48 rfl (lv_at hl 0 rfl) ?_
  have hzN := hI.2.2.2.1
  refine f_new (ci := 1) (C := "DutyRules$Duty") (T := T_DU) (N := 9) (N2 := 9) (fs := [.int 0, .int 0, .int 0, .long 0, .long 0, .null, .null, .null, .null]) hx hb (fun w q => hT w (s_DU w q)) t_DU k_DU hown (hT _ w_101) (hT _ w_102) (hT _ w_8) hK hI rfl (fun j hj => by rcases (show j = 0 ∨ j = 1 ∨ j = 2 ∨ j = 3 ∨ j = 4 ∨ j = 5 ∨ j = 6 ∨ j = 7 ∨ j = 8 by omega) with rfl | rfl | rfl | rfl | rfl | rfl | rfl | rfl | rfl <;> rfl) 13 1 (Nat.le_of_ble_eq_true rfl) (Nat.le_of_ble_eq_true rfl) d_DR_init_49 (fun q_17 H eq_17 zq_17 nq_17 hI => ?_)
  generalize eh_18 : fU h_16 q_17 (13, 1, .inr (1, [.int 0, .int 0, .int 0, .long 0, .long 0, .null, .null, .null, .null])) = h_18 at hI
  have hX := hX.new (e := .inr (1, [.int 0, .int 0, .int 0, .long 0, .long 0, .null, .null, .null, .null])) (r := 13) (o := 1) nq_17 (by omega); rw [eh_18] at hX
  have hF := hF.new (c := (13, 1, .inr (1, [.int 0, .int 0, .int 0, .long 0, .long 0, .null, .null, .null, .null]))) nq_17; rw [eh_18] at hF
  have hW9 : fF (inR []) h_16 h_18 := by rw [← eh_18]; exact fF.rf.new nq_17
  have hB := hB.keepF hW9 (by show ¬ _ ∈ _; decide) (by show ¬ _ ∈ _; decide)
  have hEd := hEd.keepF hW9 (by decide)
  have hC := hC.keepF hW9 (by decide) (by decide) (by decide)
  have hD0 := hD0.keepF hW9 (fun r9 q1 q2 q => by simp [inR, inD] at q; (try omega))
  have g_X : h_18 X = some (1, 0, .inr (0, [.ref q_1, .ref q_5, .ref q_9, .ref q_13, .null, .null, .null, .int 0, .null, .null])) := (congrFun eh_18 X).symm.trans (fU_keep g_X (f_neN g_X nq_17))
  have g_q_17 : h_18 q_17 = some (13, 1, .inr (1, [.int 0, .int 0, .int 0, .long 0, .long 0, .null, .null, .null, .null])) := (congrFun eh_18 q_17).symm.trans (fU_self _ _ _)
  refine lv_dup hx hb d_DR_init_52 rfl ?_
  have hzA := hI.2.2.2.1
  refine f_callv hI (f_runI C hI (c_DU_init l G h_18 _ q_17 1 g_q_17) gm_DU_init w_104 rfl w_103 rfl hl.1 rfl (Nat.le_of_ble_eq_true rfl) ⟨Nat.le_of_ble_eq_true rfl, Nat.le_of_ble_eq_true rfl⟩ d_DR_init_53 ⟨by first | exact Nat.le_of_ble_eq_true rfl | ((try dsimp only); omega), by first | exact Nat.le_of_ble_eq_true rfl | ((try dsimp only); omega)⟩) (fun h9 H9 locs hp9 hX9 hz9 hI => ?_)
  obtain ⟨hD1, hF9⟩ := hp9
  have hX := fX.tr (Nat.le_trans (Nat.le_of_eq hsz.symm) hzA) hX hX9
  have g_X := hF9 _ _ _ _ g_X (fun q => by have := q.1; omega)
  have hB := hB.keepF hF9 (fun q => by have := q.1; omega) (fun q => by have := q.1; omega)
  have hEd := hEd.keepD hF9
  have hC := hC.keepD hF9
  have hD0 := hD0.keepF hF9 (fun r9 _ _ q => by have := q.2.2; omega)
  have hF := hF.tr (hF9.mono (fun r9 o9 z => (by obtain ⟨z1, z2, z3⟩ := z; simp [inR]; omega : inR [1, 2, 4, 10, 13, 14, 15, 16, 17, 28, 29, 30] r9 o9)))
  have g_q_17 : ∃ c9, h9 q_17 = some c9 := ⟨_, hD1.choose_spec.choose_spec.choose_spec.choose_spec.choose_spec.choose_spec.choose_spec.1⟩
  refine f_putF (C := "DutyRules") (T := T_DR) (N := 10) (fs' := [.ref q_1, .ref q_5, .ref q_9, .ref q_13, .ref q_17, .null, .null, .int 0, .null, .null]) (v := .ref q_17) hx hb (fun w q => hT w (s_DR w q)) t_DR k_DR n_DR hown hK hI g_X (by decide) rfl 4 (by decide) (hT _ w_167) (fun _ q => q) rfl hnm rfl rfl rfl (Nat.le_of_ble_eq_true rfl) rfl d_DR_init_56 (fun H locs hI => ?_)
  generalize eh_20 : fU h9 X (1, 0, .inr (0, [.ref q_1, .ref q_5, .ref q_9, .ref q_13, .ref q_17, .null, .null, .int 0, .null, .null])) = h_20 at hI
  have hX := hX.set (e := .inr (0, [.ref q_1, .ref q_5, .ref q_9, .ref q_13, .ref q_17, .null, .null, .int 0, .null, .null])) g_X (by decide); rw [eh_20] at hX
  have hF := hF.set (e := .inr (0, [.ref q_1, .ref q_5, .ref q_9, .ref q_13, .ref q_17, .null, .null, .int 0, .null, .null])) g_X (by decide); rw [eh_20] at hF
  have hW9 : fF (inR [1]) h9 h_20 := by rw [← eh_20]; exact fF.rf.set g_X (by show _ ∈ _; decide)
  have hB := hB.keepF hW9 (by show ¬ _ ∈ _; decide) (by show ¬ _ ∈ _; decide)
  have hEd := hEd.keepF hW9 (by decide)
  have hC := hC.keepF hW9 (by decide) (by decide) (by decide)
  have hD0 := hD0.keepF hW9 (fun r9 q1 q2 q => by simp [inR, inD] at q; (try omega))
  have hD1 := hD1.keepF hW9 (fun r9 q1 q2 q => by simp [inR, inD] at q; (try omega))
  have g_X : h_20 X = some (1, 0, .inr (0, [.ref q_1, .ref q_5, .ref q_9, .ref q_13, .ref q_17, .null, .null, .int 0, .null, .null])) := (congrFun eh_20 X).symm.trans (fU_self _ _ _)
  refine lv_aload_n hx hb d_DR_init_59 rfl (lv_at hl 0 rfl) ?_
  have hzN := hI.2.2.2.1
  refine f_new (ci := 6) (C := "DutyRules$Rules") (T := T_RU) (N := 3) (N2 := 3) (fs := [.int 0, .null, .null]) hx hb (fun w q => hT w (s_RU w q)) t_RU k_RU hown (hT _ w_144) (hT _ w_145) (hT _ w_9) hK hI rfl (fun j hj => by rcases (show j = 0 ∨ j = 1 ∨ j = 2 by omega) with rfl | rfl | rfl <;> rfl) 28 0 (Nat.le_of_ble_eq_true rfl) (Nat.le_of_ble_eq_true rfl) d_DR_init_60 (fun q_21 H eq_21 zq_21 nq_21 hI => ?_)
  generalize eh_22 : fU h_20 q_21 (28, 0, .inr (6, [.int 0, .null, .null])) = h_22 at hI
  have hX := hX.new (e := .inr (6, [.int 0, .null, .null])) (r := 28) (o := 0) nq_21 (by omega); rw [eh_22] at hX
  have hF := hF.new (c := (28, 0, .inr (6, [.int 0, .null, .null]))) nq_21; rw [eh_22] at hF
  have hW9 : fF (inR []) h_20 h_22 := by rw [← eh_22]; exact fF.rf.new nq_21
  have hB := hB.keepF hW9 (by show ¬ _ ∈ _; decide) (by show ¬ _ ∈ _; decide)
  have hEd := hEd.keepF hW9 (by decide)
  have hC := hC.keepF hW9 (by decide) (by decide) (by decide)
  have hD0 := hD0.keepF hW9 (fun r9 q1 q2 q => by simp [inR, inD] at q; (try omega))
  have hD1 := hD1.keepF hW9 (fun r9 q1 q2 q => by simp [inR, inD] at q; (try omega))
  have g_X : h_22 X = some (1, 0, .inr (0, [.ref q_1, .ref q_5, .ref q_9, .ref q_13, .ref q_17, .null, .null, .int 0, .null, .null])) := (congrFun eh_22 X).symm.trans (fU_keep g_X (f_neN g_X nq_21))
  have g_q_21 : h_22 q_21 = some (28, 0, .inr (6, [.int 0, .null, .null])) := (congrFun eh_22 q_21).symm.trans (fU_self _ _ _)
  refine lv_dup hx hb d_DR_init_63 rfl ?_
  have hzA := hI.2.2.2.1
  refine f_callv hI (f_runI C hI (c_RU_init l G h_22 _ q_21 g_q_21) gm_RU_init w_147 rfl w_146 rfl hl.1 rfl (Nat.le_of_ble_eq_true rfl) ⟨Nat.le_of_ble_eq_true rfl, Nat.le_of_ble_eq_true rfl⟩ d_DR_init_64 ⟨by first | exact Nat.le_of_ble_eq_true rfl | ((try dsimp only); omega), by first | exact Nat.le_of_ble_eq_true rfl | ((try dsimp only); omega)⟩) (fun h9 H9 locs hp9 hX9 hz9 hI => ?_)
  obtain ⟨hRu, hF9⟩ := hp9
  have hX := fX.tr (Nat.le_trans (Nat.le_of_eq hsz.symm) hzA) hX hX9
  have g_X := hF9 _ _ _ _ g_X (by decide)
  have hB := hB.keepF hF9 (by show ¬ _ ∈ _; decide) (by show ¬ _ ∈ _; decide)
  have hEd := hEd.keepF hF9 (by decide)
  have hC := hC.keepF hF9 (by decide) (by decide) (by decide)
  have hD0 := hD0.keepF hF9 (fun r9 q1 q2 q => by simp [inR, inD] at q; (try omega))
  have hD1 := hD1.keepF hF9 (fun r9 q1 q2 q => by simp [inR, inD] at q; (try omega))
  have hF := hF.tr (hF9.mono (fun r9 _ z => (by simp [inR] at z ⊢; omega : inR [1, 2, 4, 10, 13, 14, 15, 16, 17, 28, 29, 30] r9 _)))
  have g_q_21 : ∃ c9, h9 q_21 = some c9 := ⟨_, hRu.choose_spec.choose_spec.1⟩
  refine f_put (C := "DutyRules") (T := T_DR) (N := 10) (fs' := [.ref q_1, .ref q_5, .ref q_9, .ref q_13, .ref q_17, .ref q_21, .null, .int 0, .null, .null]) (v := .ref q_21) hx hb (fun w q => hT w (s_DR w q)) t_DR k_DR n_DR hown hK hI g_X (by decide) rfl 5 (by decide) (hT _ w_168) (fun _ q => q) rfl rfl rfl (Nat.le_of_ble_eq_true rfl) rfl d_DR_init_67 (fun H locs hI => ?_)
  generalize eh_24 : fU h9 X (1, 0, .inr (0, [.ref q_1, .ref q_5, .ref q_9, .ref q_13, .ref q_17, .ref q_21, .null, .int 0, .null, .null])) = h_24 at hI
  have hX := hX.set (e := .inr (0, [.ref q_1, .ref q_5, .ref q_9, .ref q_13, .ref q_17, .ref q_21, .null, .int 0, .null, .null])) g_X (by decide); rw [eh_24] at hX
  have hF := hF.set (e := .inr (0, [.ref q_1, .ref q_5, .ref q_9, .ref q_13, .ref q_17, .ref q_21, .null, .int 0, .null, .null])) g_X (by decide); rw [eh_24] at hF
  have hW9 : fF (inR [1]) h9 h_24 := by rw [← eh_24]; exact fF.rf.set g_X (by show _ ∈ _; decide)
  have hB := hB.keepF hW9 (by show ¬ _ ∈ _; decide) (by show ¬ _ ∈ _; decide)
  have hEd := hEd.keepF hW9 (by decide)
  have hC := hC.keepF hW9 (by decide) (by decide) (by decide)
  have hD0 := hD0.keepF hW9 (fun r9 q1 q2 q => by simp [inR, inD] at q; (try omega))
  have hD1 := hD1.keepF hW9 (fun r9 q1 q2 q => by simp [inR, inD] at q; (try omega))
  have hRu := hRu.keepF hW9 (by decide) (by decide) (by decide)
  have g_X : h_24 X = some (1, 0, .inr (0, [.ref q_1, .ref q_5, .ref q_9, .ref q_13, .ref q_17, .ref q_21, .null, .int 0, .null, .null])) := (congrFun eh_24 X).symm.trans (fU_self _ _ _)
  refine lv_aload_n hx hb d_DR_init_70 rfl (lv_at hl 0 rfl) ?_
  refine va_ldcS hx hb hown (hG.2.2.2.1 _ w_162) d_DR_init_71 ?_
  refine f_put (C := "DutyRules") (T := T_DR) (N := 10) (fs' := [.ref q_1, .ref q_5, .ref q_9, .ref q_13, .ref q_17, .ref q_21, .ref (G.2.2.2 0), .int 0, .null, .null]) (v := .ref (G.2.2.2 0)) hx hb (fun w q => hT w (s_DR w q)) t_DR k_DR n_DR hown hK hI g_X (by decide) rfl 6 (by decide) (hT _ w_169) (fun _ q => q) rfl rfl rfl (Nat.le_of_ble_eq_true rfl) rfl d_DR_init_73 (fun H locs hI => ?_)
  generalize eh_25 : fU h_24 X (1, 0, .inr (0, [.ref q_1, .ref q_5, .ref q_9, .ref q_13, .ref q_17, .ref q_21, .ref (G.2.2.2 0), .int 0, .null, .null])) = h_25 at hI
  have hX := hX.set (e := .inr (0, [.ref q_1, .ref q_5, .ref q_9, .ref q_13, .ref q_17, .ref q_21, .ref (G.2.2.2 0), .int 0, .null, .null])) g_X (by decide); rw [eh_25] at hX
  have hF := hF.set (e := .inr (0, [.ref q_1, .ref q_5, .ref q_9, .ref q_13, .ref q_17, .ref q_21, .ref (G.2.2.2 0), .int 0, .null, .null])) g_X (by decide); rw [eh_25] at hF
  have hW9 : fF (inR [1]) h_24 h_25 := by rw [← eh_25]; exact fF.rf.set g_X (by show _ ∈ _; decide)
  have hB := hB.keepF hW9 (by show ¬ _ ∈ _; decide) (by show ¬ _ ∈ _; decide)
  have hEd := hEd.keepF hW9 (by decide)
  have hC := hC.keepF hW9 (by decide) (by decide) (by decide)
  have hD0 := hD0.keepF hW9 (fun r9 q1 q2 q => by simp [inR, inD] at q; (try omega))
  have hD1 := hD1.keepF hW9 (fun r9 q1 q2 q => by simp [inR, inD] at q; (try omega))
  have hRu := hRu.keepF hW9 (by decide) (by decide) (by decide)
  have g_X : h_25 X = some (1, 0, .inr (0, [.ref q_1, .ref q_5, .ref q_9, .ref q_13, .ref q_17, .ref q_21, .ref (G.2.2.2 0), .int 0, .null, .null])) := (congrFun eh_25 X).symm.trans (fU_self _ _ _)
  refine lv_aload_n hx hb d_DR_init_76 rfl (lv_at hl 0 rfl) ?_
  refine lv_iconst (v := 0) hx hb d_DR_init_77 (by decide) ?_
  refine f_put (C := "DutyRules") (T := T_DR) (N := 10) (fs' := [.ref q_1, .ref q_5, .ref q_9, .ref q_13, .ref q_17, .ref q_21, .ref (G.2.2.2 0), .int 0, .null, .null]) (v := .int 0) hx hb (fun w q => hT w (s_DR w q)) t_DR k_DR n_DR hown hK hI g_X (by decide) rfl 7 (by decide) (hT _ w_170) (fun _ q => q) rfl rfl rfl (Nat.le_of_ble_eq_true rfl) rfl d_DR_init_78 (fun H locs hI => ?_)
  generalize eh_26 : fU h_25 X (1, 0, .inr (0, [.ref q_1, .ref q_5, .ref q_9, .ref q_13, .ref q_17, .ref q_21, .ref (G.2.2.2 0), .int 0, .null, .null])) = h_26 at hI
  have hX := hX.set (e := .inr (0, [.ref q_1, .ref q_5, .ref q_9, .ref q_13, .ref q_17, .ref q_21, .ref (G.2.2.2 0), .int 0, .null, .null])) g_X (by decide); rw [eh_26] at hX
  have hF := hF.set (e := .inr (0, [.ref q_1, .ref q_5, .ref q_9, .ref q_13, .ref q_17, .ref q_21, .ref (G.2.2.2 0), .int 0, .null, .null])) g_X (by decide); rw [eh_26] at hF
  have hW9 : fF (inR [1]) h_25 h_26 := by rw [← eh_26]; exact fF.rf.set g_X (by show _ ∈ _; decide)
  have hB := hB.keepF hW9 (by show ¬ _ ∈ _; decide) (by show ¬ _ ∈ _; decide)
  have hEd := hEd.keepF hW9 (by decide)
  have hC := hC.keepF hW9 (by decide) (by decide) (by decide)
  have hD0 := hD0.keepF hW9 (fun r9 q1 q2 q => by simp [inR, inD] at q; (try omega))
  have hD1 := hD1.keepF hW9 (fun r9 q1 q2 q => by simp [inR, inD] at q; (try omega))
  have hRu := hRu.keepF hW9 (by decide) (by decide) (by decide)
  have g_X : h_26 X = some (1, 0, .inr (0, [.ref q_1, .ref q_5, .ref q_9, .ref q_13, .ref q_17, .ref q_21, .ref (G.2.2.2 0), .int 0, .null, .null])) := (congrFun eh_26 X).symm.trans (fU_self _ _ _)
  refine lv_aload_n hx hb d_DR_init_81 rfl (lv_at hl 0 rfl) ?_
  refine lv_null hx hb d_DR_init_82 ?_
  refine f_put (C := "DutyRules") (T := T_DR) (N := 10) (fs' := [.ref q_1, .ref q_5, .ref q_9, .ref q_13, .ref q_17, .ref q_21, .ref (G.2.2.2 0), .int 0, .null, .null]) (v := .null) hx hb (fun w q => hT w (s_DR w q)) t_DR k_DR n_DR hown hK hI g_X (by decide) rfl 8 (by decide) (hT _ w_171) (fun _ q => q) rfl rfl rfl (Nat.le_of_ble_eq_true rfl) rfl d_DR_init_83 (fun H locs hI => ?_)
  generalize eh_27 : fU h_26 X (1, 0, .inr (0, [.ref q_1, .ref q_5, .ref q_9, .ref q_13, .ref q_17, .ref q_21, .ref (G.2.2.2 0), .int 0, .null, .null])) = h_27 at hI
  have hX := hX.set (e := .inr (0, [.ref q_1, .ref q_5, .ref q_9, .ref q_13, .ref q_17, .ref q_21, .ref (G.2.2.2 0), .int 0, .null, .null])) g_X (by decide); rw [eh_27] at hX
  have hF := hF.set (e := .inr (0, [.ref q_1, .ref q_5, .ref q_9, .ref q_13, .ref q_17, .ref q_21, .ref (G.2.2.2 0), .int 0, .null, .null])) g_X (by decide); rw [eh_27] at hF
  have hW9 : fF (inR [1]) h_26 h_27 := by rw [← eh_27]; exact fF.rf.set g_X (by show _ ∈ _; decide)
  have hB := hB.keepF hW9 (by show ¬ _ ∈ _; decide) (by show ¬ _ ∈ _; decide)
  have hEd := hEd.keepF hW9 (by decide)
  have hC := hC.keepF hW9 (by decide) (by decide) (by decide)
  have hD0 := hD0.keepF hW9 (fun r9 q1 q2 q => by simp [inR, inD] at q; (try omega))
  have hD1 := hD1.keepF hW9 (fun r9 q1 q2 q => by simp [inR, inD] at q; (try omega))
  have hRu := hRu.keepF hW9 (by decide) (by decide) (by decide)
  have g_X : h_27 X = some (1, 0, .inr (0, [.ref q_1, .ref q_5, .ref q_9, .ref q_13, .ref q_17, .ref q_21, .ref (G.2.2.2 0), .int 0, .null, .null])) := (congrFun eh_27 X).symm.trans (fU_self _ _ _)
  refine lv_aload_n hx hb d_DR_init_86 rfl (lv_at hl 0 rfl) ?_
  refine lv_null hx hb d_DR_init_87 ?_
  refine f_put (C := "DutyRules") (T := T_DR) (N := 10) (fs' := [.ref q_1, .ref q_5, .ref q_9, .ref q_13, .ref q_17, .ref q_21, .ref (G.2.2.2 0), .int 0, .null, .null]) (v := .null) hx hb (fun w q => hT w (s_DR w q)) t_DR k_DR n_DR hown hK hI g_X (by decide) rfl 9 (by decide) (hT _ w_172) (fun _ q => q) rfl rfl rfl (Nat.le_of_ble_eq_true rfl) rfl d_DR_init_88 (fun H locs hI => ?_)
  generalize eh_28 : fU h_27 X (1, 0, .inr (0, [.ref q_1, .ref q_5, .ref q_9, .ref q_13, .ref q_17, .ref q_21, .ref (G.2.2.2 0), .int 0, .null, .null])) = h_28 at hI
  have hX := hX.set (e := .inr (0, [.ref q_1, .ref q_5, .ref q_9, .ref q_13, .ref q_17, .ref q_21, .ref (G.2.2.2 0), .int 0, .null, .null])) g_X (by decide); rw [eh_28] at hX
  have hF := hF.set (e := .inr (0, [.ref q_1, .ref q_5, .ref q_9, .ref q_13, .ref q_17, .ref q_21, .ref (G.2.2.2 0), .int 0, .null, .null])) g_X (by decide); rw [eh_28] at hF
  have hW9 : fF (inR [1]) h_27 h_28 := by rw [← eh_28]; exact fF.rf.set g_X (by show _ ∈ _; decide)
  have hB := hB.keepF hW9 (by show ¬ _ ∈ _; decide) (by show ¬ _ ∈ _; decide)
  have hEd := hEd.keepF hW9 (by decide)
  have hC := hC.keepF hW9 (by decide) (by decide) (by decide)
  have hD0 := hD0.keepF hW9 (fun r9 q1 q2 q => by simp [inR, inD] at q; (try omega))
  have hD1 := hD1.keepF hW9 (fun r9 q1 q2 q => by simp [inR, inD] at q; (try omega))
  have hRu := hRu.keepF hW9 (by decide) (by decide) (by decide)
  have g_X : h_28 X = some (1, 0, .inr (0, [.ref q_1, .ref q_5, .ref q_9, .ref q_13, .ref q_17, .ref q_21, .ref (G.2.2.2 0), .int 0, .null, .null])) := (congrFun eh_28 X).symm.trans (fU_self _ _ _)
  exact f_vret C hr (hI.view (reR_V _)) ⟨q_1, q_5, q_9, q_13, q_17, q_21, A, (reR_F _) _ _ _ _ g_X (by decide), hB.keepF (reR_F _) (by decide) (by decide), hEd.keepF (reR_F _) (by decide), hC.keepF (reR_F _) (by decide) (by decide) (by decide), hD0.keepF (reR_F _) (fun r9 q1 q2 q => by simp [inR] at q; (try omega)), hD1.keepF (reR_F _) (fun r9 q1 q2 q => by simp [inR] at q; (try omega)), reR_U hRu, hF.tr ((reR_F _).mono (fun r9 _ z => (by simp [inR] at z ⊢; omega : inR [1, 2, 4, 10, 13, 14, 15, 16, 17, 28, 29, 30] r9 _)))⟩ (hX.view (reR_V _)) (by (try dsimp only); omega) (by (try dsimp only); omega) d_DR_init_91
