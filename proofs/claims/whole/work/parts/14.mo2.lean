theorem gm_MO_step : gM y_MO_step b_MO_step 3 none 2 := ⟨w_1041, w_10, ⟨by decide, by decide⟩, by decide +kernel⟩
set_option maxHeartbeats 4000000 in
set_option maxRecDepth 100000 in
/-- MO_step  -/
theorem c_MO_step (l : Launch) (G : gG) (h : fH) (sz : Nat) (x le ru : Nat) (mf : Nat → Value) (g_x : h x = some (40, 0, .inr (8, mo mf))) (rs : Int32) (ns : Nat) (sl sr sc : Nat → Nat) (fr ce : Nat) (hSt : mSt G h mf rs ns sl sr sc fr ce) (bns : ns < 5) (bce : ce < 2 ^ 63) : cM l y_MO_step b_MO_step 3 none { frames := 0, cells := 0, slots := 0, locals := 0 } G [.ref x, .int (nI le), .int (nI ru)] h sz (cQv G h sz (fun h' => ∃ mf', h' x = some (40, 0, .inr (8, mo mf')) ∧ (∀ j, j ≠ 18 → mf' j = mf j) ∧ mSt G h' mf' rs (ns + 1) (va_up sl ns le) (va_up sr ns ru) (va_up sc ns (ce / CT)) fr ce ∧ fF (inR [40, 56, 57, 58]) h h')) := by
  refine f_start (by decide) (Nat.le_of_ble_eq_true rfl) ?_
  intro p e s m below meth c ls C hr hsz hI hl
  obtain ⟨hx, hb, hml, hown, hnm, hlk, hT, hG, hZ⟩ := id C
  have hK := hG.1
  have hX : fX h sz h := fX.rf
  have hl : lv_has ls 3 [(0, .ref x), (1, .int (nI le)), (2, .int (nI ru))] := hl
  obtain ⟨a15, a16, a17, ⟨v_14, v_15, v_16, v_17, v_18, v_19, v_20⟩, ⟨g_a15, g_a16, g_a17⟩⟩ := hSt
  have hF : fF (inR [40, 56, 57, 58]) h h := fF.rf
  refine lv_aload_n hx hb d_MO_step_0 rfl (lv_at hl 0 rfl) ?_
  refine f_get (C := "DutyRulesModel") (T := T_MO) (N := 40) hx hb (fun w q => hT w (s_MO w q)) hown hK hI g_x rfl 15 (by decide) (hT _ w_824) (fun _ q => q) (mo_get (by decide) v_15) d_MO_step_1 ?_
  refine lv_aload_n hx hb d_MO_step_4 rfl (lv_at hl 0 rfl) ?_
  refine f_get (C := "DutyRulesModel") (T := T_MO) (N := 40) hx hb (fun w q => hT w (s_MO w q)) hown hK hI g_x rfl 18 (by decide) (hT _ w_827) (fun _ q => q) (mo_get (by decide) v_18) d_MO_step_5 ?_
  refine lv_iload_n hx hb d_MO_step_8 rfl (lv_at hl 1 rfl) ?_
  refine f_iastn (k := ns) (f' := (fun i => nI (va_up sl ns le i))) hx hb hI g_a15 (by decide) (fT.ofK hK (t0 := 0) rfl) (by omega) (by omega) (up_i sl ns le) d_MO_step_9 (fun H locs hI => ?_)
  generalize eh_1 : fU h a15 (56, 0, .inl ((G.2.1 0), 5, .inl (fun i => nI (va_up sl ns le i)))) = h_1 at hI
  have hX := hX.set (e := .inl ((G.2.1 0), 5, .inl (fun i => nI (va_up sl ns le i)))) g_a15 (by decide); rw [eh_1] at hX
  have hF := hF.set (e := .inl ((G.2.1 0), 5, .inl (fun i => nI (va_up sl ns le i)))) g_a15 (by decide); rw [eh_1] at hF
  have g_a16 : h_1 a16 = some (57, 0, .inl ((G.2.1 0), 5, .inl (fun i => nI (sr i)))) := (congrFun eh_1 a16).symm.trans (fU_keep g_a16 (f_neR g_a16 g_a15 (by decide)))
  have g_a17 : h_1 a17 = some (58, 0, .inl ((G.2.1 1), 5, .inr (.inl (fun i => lN (sc i))))) := (congrFun eh_1 a17).symm.trans (fU_keep g_a17 (f_neR g_a17 g_a15 (by decide)))
  have g_x : h_1 x = some (40, 0, .inr (8, mo mf)) := (congrFun eh_1 x).symm.trans (fU_keep g_x (f_neR g_x g_a15 (by decide)))
  have g_a15 : h_1 a15 = some (56, 0, .inl ((G.2.1 0), 5, .inl (fun i => nI (va_up sl ns le i)))) := (congrFun eh_1 a15).symm.trans (fU_self _ _ _)
  refine lv_aload_n hx hb d_MO_step_10 rfl (lv_at hl 0 rfl) ?_
  refine f_get (C := "DutyRulesModel") (T := T_MO) (N := 40) hx hb (fun w q => hT w (s_MO w q)) hown hK hI g_x rfl 16 (by decide) (hT _ w_825) (fun _ q => q) (mo_get (by decide) v_16) d_MO_step_11 ?_
  refine lv_aload_n hx hb d_MO_step_14 rfl (lv_at hl 0 rfl) ?_
  refine f_get (C := "DutyRulesModel") (T := T_MO) (N := 40) hx hb (fun w q => hT w (s_MO w q)) hown hK hI g_x rfl 18 (by decide) (hT _ w_827) (fun _ q => q) (mo_get (by decide) v_18) d_MO_step_15 ?_
  refine lv_iload_n hx hb d_MO_step_18 rfl (lv_at hl 2 rfl) ?_
  refine f_iastn (k := ns) (f' := (fun i => nI (va_up sr ns ru i))) hx hb hI g_a16 (by decide) (fT.ofK hK (t0 := 0) rfl) (by omega) (by omega) (up_i sr ns ru) d_MO_step_19 (fun H locs hI => ?_)
  generalize eh_2 : fU h_1 a16 (57, 0, .inl ((G.2.1 0), 5, .inl (fun i => nI (va_up sr ns ru i)))) = h_2 at hI
  have hX := hX.set (e := .inl ((G.2.1 0), 5, .inl (fun i => nI (va_up sr ns ru i)))) g_a16 (by decide); rw [eh_2] at hX
  have hF := hF.set (e := .inl ((G.2.1 0), 5, .inl (fun i => nI (va_up sr ns ru i)))) g_a16 (by decide); rw [eh_2] at hF
  have g_a15 : h_2 a15 = some (56, 0, .inl ((G.2.1 0), 5, .inl (fun i => nI (va_up sl ns le i)))) := (congrFun eh_2 a15).symm.trans (fU_keep g_a15 (f_neR g_a15 g_a16 (by decide)))
  have g_a17 : h_2 a17 = some (58, 0, .inl ((G.2.1 1), 5, .inr (.inl (fun i => lN (sc i))))) := (congrFun eh_2 a17).symm.trans (fU_keep g_a17 (f_neR g_a17 g_a16 (by decide)))
  have g_x : h_2 x = some (40, 0, .inr (8, mo mf)) := (congrFun eh_2 x).symm.trans (fU_keep g_x (f_neR g_x g_a16 (by decide)))
  have g_a16 : h_2 a16 = some (57, 0, .inl ((G.2.1 0), 5, .inl (fun i => nI (va_up sr ns ru i)))) := (congrFun eh_2 a16).symm.trans (fU_self _ _ _)
  refine lv_aload_n hx hb d_MO_step_20 rfl (lv_at hl 0 rfl) ?_
  refine f_get (C := "DutyRulesModel") (T := T_MO) (N := 40) hx hb (fun w q => hT w (s_MO w q)) hown hK hI g_x rfl 17 (by decide) (hT _ w_826) (fun _ q => q) (mo_get (by decide) v_17) d_MO_step_21 ?_
  refine lv_aload_n hx hb d_MO_step_24 rfl (lv_at hl 0 rfl) ?_
  refine f_get (C := "DutyRulesModel") (T := T_MO) (N := 40) hx hb (fun w q => hT w (s_MO w q)) hown hK hI g_x rfl 18 (by decide) (hT _ w_827) (fun _ q => q) (mo_get (by decide) v_18) d_MO_step_25 ?_
  refine lv_aload_n hx hb d_MO_step_28 rfl (lv_at hl 0 rfl) ?_
  refine f_get (C := "DutyRulesModel") (T := T_MO) (N := 40) hx hb (fun w q => hT w (s_MO w q)) hown hK hI g_x rfl 20 (by decide) (hT _ w_829) (fun _ q => q) (mo_get (by decide) v_20) d_MO_step_29 ?_
  refine lv_ldc2 (v := 100000000000) hx hb hown (hT _ w_1042) d_MO_step_32 ?_
  refine lv_ldiv hx hb d_MO_step_35 (l_ne0 (a := 100000000000) (by omega) (by omega)) ?_
  refine f_asl (pk_lDiv (a := ce) (b := 100000000000) (by omega) (by omega) (by omega)) ?_
  refine f_lastn (k := ns) (f' := (fun i => lN (va_up sc ns (ce / 100000000000) i))) hx hb hI g_a17 (by decide) (fT.ofK hK (t0 := 1) rfl) (by omega) (by omega) (up_l sc ns (ce / 100000000000)) d_MO_step_36 (fun H locs hI => ?_)
  generalize eh_3 : fU h_2 a17 (58, 0, .inl ((G.2.1 1), 5, .inr (.inl (fun i => lN (va_up sc ns (ce / 100000000000) i))))) = h_3 at hI
  have hX := hX.set (e := .inl ((G.2.1 1), 5, .inr (.inl (fun i => lN (va_up sc ns (ce / 100000000000) i))))) g_a17 (by decide); rw [eh_3] at hX
  have hF := hF.set (e := .inl ((G.2.1 1), 5, .inr (.inl (fun i => lN (va_up sc ns (ce / 100000000000) i))))) g_a17 (by decide); rw [eh_3] at hF
  have g_a15 : h_3 a15 = some (56, 0, .inl ((G.2.1 0), 5, .inl (fun i => nI (va_up sl ns le i)))) := (congrFun eh_3 a15).symm.trans (fU_keep g_a15 (f_neR g_a15 g_a17 (by decide)))
  have g_a16 : h_3 a16 = some (57, 0, .inl ((G.2.1 0), 5, .inl (fun i => nI (va_up sr ns ru i)))) := (congrFun eh_3 a16).symm.trans (fU_keep g_a16 (f_neR g_a16 g_a17 (by decide)))
  have g_x : h_3 x = some (40, 0, .inr (8, mo mf)) := (congrFun eh_3 x).symm.trans (fU_keep g_x (f_neR g_x g_a17 (by decide)))
  have g_a17 : h_3 a17 = some (58, 0, .inl ((G.2.1 1), 5, .inr (.inl (fun i => lN (va_up sc ns (ce / 100000000000) i))))) := (congrFun eh_3 a17).symm.trans (fU_self _ _ _)
  refine lv_aload_n hx hb d_MO_step_37 rfl (lv_at hl 0 rfl) ?_
  refine lv_dup hx hb d_MO_step_38 rfl ?_
  refine f_get (C := "DutyRulesModel") (T := T_MO) (N := 40) hx hb (fun w q => hT w (s_MO w q)) hown hK hI g_x rfl 18 (by decide) (hT _ w_827) (fun _ q => q) (mo_get (by decide) v_18) d_MO_step_39 ?_
  refine lv_iconst (v := 1) hx hb d_MO_step_42 (by decide) ?_
  refine lv_iadd hx hb d_MO_step_43 ?_
  refine f_asi (nI_add ns 1) ?_
  refine f_put (C := "DutyRulesModel") (T := T_MO) (N := 40) (fs' := mo (va_up mf 18 (.int (nI (ns + 1))))) (v := .int (nI (ns + 1))) hx hb (fun w q => hT w (s_MO w q)) t_MO k_MO n_MO hown hK hI g_x (by decide) rfl 18 (by decide) (hT _ w_827) (fun _ q => q) rfl rfl rfl (by rw [mo_len]; decide) (mo_set _) d_MO_step_44 (fun H locs hI => ?_)
  generalize emf_4 : va_up mf 18 (.int (nI (ns + 1))) = mf_4 at hI
  have v_14 : mf_4 14 = .int rs := (congrFun emf_4 14).symm.trans ((va_up_ne _ _ (by decide)).trans v_14)
  have v_15 : mf_4 15 = .ref a15 := (congrFun emf_4 15).symm.trans ((va_up_ne _ _ (by decide)).trans v_15)
  have v_16 : mf_4 16 = .ref a16 := (congrFun emf_4 16).symm.trans ((va_up_ne _ _ (by decide)).trans v_16)
  have v_17 : mf_4 17 = .ref a17 := (congrFun emf_4 17).symm.trans ((va_up_ne _ _ (by decide)).trans v_17)
  have v_19 : mf_4 19 = .long (lN fr) := (congrFun emf_4 19).symm.trans ((va_up_ne _ _ (by decide)).trans v_19)
  have v_20 : mf_4 20 = .long (lN ce) := (congrFun emf_4 20).symm.trans ((va_up_ne _ _ (by decide)).trans v_20)
  have v_18 : mf_4 18 = .int (nI (ns + 1)) := (congrFun emf_4 18).symm.trans (va_up_self _ _ _)
  generalize eh_5 : fU h_3 x (40, 0, .inr (8, mo mf_4)) = h_5 at hI
  have hX := hX.set (e := .inr (8, mo mf_4)) g_x (by decide); rw [eh_5] at hX
  have hF := hF.set (e := .inr (8, mo mf_4)) g_x (by decide); rw [eh_5] at hF
  have g_a15 : h_5 a15 = some (56, 0, .inl ((G.2.1 0), 5, .inl (fun i => nI (va_up sl ns le i)))) := (congrFun eh_5 a15).symm.trans (fU_keep g_a15 (f_neR g_a15 g_x (by decide)))
  have g_a16 : h_5 a16 = some (57, 0, .inl ((G.2.1 0), 5, .inl (fun i => nI (va_up sr ns ru i)))) := (congrFun eh_5 a16).symm.trans (fU_keep g_a16 (f_neR g_a16 g_x (by decide)))
  have g_a17 : h_5 a17 = some (58, 0, .inl ((G.2.1 1), 5, .inr (.inl (fun i => lN (va_up sc ns (ce / 100000000000) i))))) := (congrFun eh_5 a17).symm.trans (fU_keep g_a17 (f_neR g_a17 g_x (by decide)))
  have g_x : h_5 x = some (40, 0, .inr (8, mo mf_4)) := (congrFun eh_5 x).symm.trans (fU_self _ _ _)
  exact f_vret C hr hI ⟨mf_4, g_x, fun j hj => by rw [← emf_4]; exact va_up_ne _ _ hj, ⟨a15, a16, a17, ⟨v_14, v_15, v_16, v_17, v_18, v_19, v_20⟩, ⟨g_a15, g_a16, g_a17⟩⟩, hF⟩ hX (Nat.le_refl _) (Nat.le_refl _) d_MO_step_47
theorem gm_MO_fraction : gM y_MO_fraction b_MO_fraction 7 (some .long) 3 := ⟨w_1049, w_10, ⟨by decide, by decide⟩, by decide +kernel⟩
set_option maxHeartbeats 4000000 in
set_option maxRecDepth 100000 in
/-- MO_fraction  -/
theorem c_MO_fraction (l : Launch) (G : gG) (h : fH) (sz : Nat) (a b : Nat) (pt : Int32) (ba : a < 2 ^ 63) (bb : b < 2 ^ 63) (b0 : 0 < b) : cM l y_MO_fraction b_MO_fraction 7 (some .long) { frames := 1, cells := 0, slots := 0, locals := 29 } G [.long (lN a), .long (lN b), .int pt] h sz (cQl G h sz (fun r h' => r = (if pt = 0 then lN (a / Nat.gcd a b) else lN (b / Nat.gcd a b)) ∧ h' = h)) := by
  refine f_start (by decide) (Nat.le_of_ble_eq_true rfl) ?_
  intro p e s m below meth c ls C hr hsz hI hl
  obtain ⟨hx, hb, hml, hown, hnm, hlk, hT, hG, hZ⟩ := id C
  have hK := hG.1
  have hX : fX h sz h := fX.rf
  have hl : lv_has ls 7 [(0, .long (lN a)), (2, .long (lN b)), (4, .int pt)] := hl
  have hg0 : 0 < Nat.gcd b a := Nat.gcd_pos_of_pos_left _ b0
  have hg1 : Nat.gcd b a ≤ b := Nat.gcd_le_left _ b0
  have hgc : Nat.gcd a b = Nat.gcd b a := Nat.gcd_comm _ _
  refine lv_lload_n hx hb d_MO_fraction_0 rfl (lv_at hl 1 rfl) ?_
  refine lv_lload_n hx hb d_MO_fraction_1 rfl (lv_at hl 0 rfl) ?_
  refine f_calll hI (f_runS C hI (c_MO_divisor l G h _ b a bb ba) gm_MO_divisor w_1051 w_1050 rfl hl.1 rfl (Nat.le_of_ble_eq_true rfl) ⟨Nat.le_of_ble_eq_true rfl, Nat.le_of_ble_eq_true rfl⟩ d_MO_fraction_2 ⟨Nat.le_of_ble_eq_true rfl, Nat.le_of_ble_eq_true rfl⟩) (fun r_1 h8 H9 locs hp9 hX9 hz9 hI => ?_)
  obtain ⟨rfl, e9⟩ := hp9
  rw [e9] at hI
  clear hX9 e9
  refine lv_lstore (lv' := [(5, .long (lN (Nat.gcd b a))), (0, .long (lN a)), (2, .long (lN b)), (4, .int pt)]) hx hb d_MO_fraction_5 hl (by decide) rfl (fun ls hl => ?_)
  refine lv_iload hx hb d_MO_fraction_7 (lv_at hl 3 rfl) ?_
  refine lv_if_ne (tgt := 19) hx hb d_MO_fraction_9 (by decide) (fun c_2 => ?_) (fun c_2 => ?_)
  · skip
    refine lv_lload_n hx hb d_MO_fraction_19 rfl (lv_at hl 2 rfl) ?_
    refine lv_lload hx hb d_MO_fraction_20 (lv_at hl 0 rfl) ?_
    refine lv_ldiv hx hb d_MO_fraction_22 (l_ne0 (a := (Nat.gcd b a)) (by omega) (by omega)) ?_
    refine f_asl (pk_lDiv (a := b) (b := (Nat.gcd b a)) (by omega) (by omega) (by omega)) ?_
    exact f_lret C hr hI ⟨by rw [if_neg c_2, hgc], rfl⟩ hX (Nat.le_refl _) (Nat.le_refl _) d_MO_fraction_23
  · skip
    refine lv_lload_n hx hb d_MO_fraction_12 rfl (lv_at hl 1 rfl) ?_
    refine lv_lload hx hb d_MO_fraction_13 (lv_at hl 0 rfl) ?_
    refine lv_ldiv hx hb d_MO_fraction_15 (l_ne0 (a := (Nat.gcd b a)) (by omega) (by omega)) ?_
    refine f_asl (pk_lDiv (a := a) (b := (Nat.gcd b a)) (by omega) (by omega) (by omega)) ?_
    refine lv_goto (tgt := 23) hx hb d_MO_fraction_16 (by decide) ?_
    exact f_lret C hr hI ⟨by rw [if_pos c_2, hgc], rfl⟩ hX (Nat.le_refl _) (Nat.le_refl _) d_MO_fraction_23
