theorem gm_MO_unit : gM y_MO_unit b_MO_unit 2 (some .boolean) 1 := ⟨w_933, w_10, ⟨by decide, by decide⟩, by decide +kernel⟩
set_option maxHeartbeats 4000000 in
set_option maxRecDepth 100000 in
/-- MO_unit  -/
theorem c_MO_unit (l : Launch) (G : gG) (h : fH) (sz : Nat) (x U : Nat) (mf : Nat → Value) (g_x : h x = some (40, 0, .inr (8, mo mf))) (tn : Nat) (tx : Nat → Nat) (hTx : mTx G h mf tn tx) (bU1 : 1 ≤ U) (bU2 : U ≤ 127) (btn2 : tn < 2000) : cM l y_MO_unit b_MO_unit 2 (some .boolean) { frames := 0, cells := 0, slots := 0, locals := 0 } G [.ref x, .int (nI U)] h sz (cQi G h sz (fun r h' => r = 1 ∧ ∃ mf', h' x = some (40, 0, .inr (8, mo mf')) ∧ (∀ j, j ≠ 1 → mf' j = mf j) ∧ mTx G h' mf' (tn + 1) (va_up tx tn U) ∧ fF (inR [40, 41]) h h')) := by
  refine f_start (by decide) (Nat.le_of_ble_eq_true rfl) ?_
  intro p e s m below meth c ls C hr hsz hI hl
  obtain ⟨hx, hb, hml, hown, hnm, hlk, hT, hG, hZ⟩ := id C
  have hK := hG.1
  have hX : fX h sz h := fX.rf
  have hl : lv_has ls 2 [(0, .ref x), (1, .int (nI U))] := hl
  obtain ⟨a0, ⟨v_0, v_1⟩, g_a0, btn, btx⟩ := hTx
  have hF : fF (inR [40, 41]) h h := fF.rf
  refine lv_iload_n hx hb d_MO_unit_0 rfl (lv_at hl 1 rfl) ?_
  refine lv_iconst (v := 1) hx hb d_MO_unit_1 (by decide) ?_
  refine lv_icmp_lt (tgt := 21) hx hb d_MO_unit_2 (by decide) (fun c_1 => absurd c_1 (fun q => absurd ((n_lt (a := U) (b := 1) (by omega) (by omega)).mp q) (by omega))) (fun c_1 => ?_)
  refine lv_iload_n hx hb d_MO_unit_5 rfl (lv_at hl 1 rfl) ?_
  refine lv_bipush (v := 127) hx hb d_MO_unit_6 (by decide) ?_
  refine lv_icmp_gt (tgt := 21) hx hb d_MO_unit_8 (by decide) (fun c_2 => absurd c_2 (fun q => absurd ((n_lt (a := 127) (b := U) (by omega) (by omega)).mp q) (by omega))) (fun c_2 => ?_)
  refine lv_aload_n hx hb d_MO_unit_11 rfl (lv_at hl 0 rfl) ?_
  refine f_get (C := "DutyRulesModel") (T := T_MO) (N := 40) hx hb (fun w q => hT w (s_MO w q)) hown hK hI g_x rfl 1 (by decide) (hT _ w_810) (fun _ q => q) (mo_get (by decide) v_1) d_MO_unit_12 ?_
  refine lv_sipush (v := 2000) hx hb d_MO_unit_15 (by decide) ?_
  refine lv_icmp_ne (tgt := 23) hx hb d_MO_unit_18 (by decide) (fun c_3 => ?_) (fun c_3 => absurd c_3 (fun q => absurd ((n_eq (a := tn) (b := 2000) (by omega) (by omega)).mp q) (by omega)))
  refine lv_aload_n hx hb d_MO_unit_23 rfl (lv_at hl 0 rfl) ?_
  refine f_get (C := "DutyRulesModel") (T := T_MO) (N := 40) hx hb (fun w q => hT w (s_MO w q)) hown hK hI g_x rfl 0 (by decide) (hT _ w_809) (fun _ q => q) (mo_get (by decide) v_0) d_MO_unit_24 ?_
  refine lv_aload_n hx hb d_MO_unit_27 rfl (lv_at hl 0 rfl) ?_
  refine f_get (C := "DutyRulesModel") (T := T_MO) (N := 40) hx hb (fun w q => hT w (s_MO w q)) hown hK hI g_x rfl 1 (by decide) (hT _ w_810) (fun _ q => q) (mo_get (by decide) v_1) d_MO_unit_28 ?_
  refine lv_iload_n hx hb d_MO_unit_31 rfl (lv_at hl 1 rfl) ?_
  refine f_iastn (k := tn) (f' := (fun i => nI (va_up tx tn U i))) hx hb hI g_a0 (by decide) (fT.ofK hK (t0 := 0) rfl) (by omega) (by omega) (up_i tx tn U) d_MO_unit_32 (fun H locs hI => ?_)
  generalize eh_4 : fU h a0 (41, 0, .inl ((G.2.1 0), 2000, .inl (fun i => nI (va_up tx tn U i)))) = h_4 at hI
  have hX := hX.set (e := .inl ((G.2.1 0), 2000, .inl (fun i => nI (va_up tx tn U i)))) g_a0 (by decide); rw [eh_4] at hX
  have hF := hF.set (e := .inl ((G.2.1 0), 2000, .inl (fun i => nI (va_up tx tn U i)))) g_a0 (by decide); rw [eh_4] at hF
  have g_x : h_4 x = some (40, 0, .inr (8, mo mf)) := (congrFun eh_4 x).symm.trans (fU_keep g_x (f_neR g_x g_a0 (by decide)))
  have g_a0 : h_4 a0 = some (41, 0, .inl ((G.2.1 0), 2000, .inl (fun i => nI (va_up tx tn U i)))) := (congrFun eh_4 a0).symm.trans (fU_self _ _ _)
  refine lv_aload_n hx hb d_MO_unit_33 rfl (lv_at hl 0 rfl) ?_
  refine lv_dup hx hb d_MO_unit_34 rfl ?_
  refine f_get (C := "DutyRulesModel") (T := T_MO) (N := 40) hx hb (fun w q => hT w (s_MO w q)) hown hK hI g_x rfl 1 (by decide) (hT _ w_810) (fun _ q => q) (mo_get (by decide) v_1) d_MO_unit_35 ?_
  refine lv_iconst (v := 1) hx hb d_MO_unit_38 (by decide) ?_
  refine lv_iadd hx hb d_MO_unit_39 ?_
  refine f_asi (nI_add tn 1) ?_
  refine f_put (C := "DutyRulesModel") (T := T_MO) (N := 40) (fs' := mo (va_up mf 1 (.int (nI (tn + 1))))) (v := .int (nI (tn + 1))) hx hb (fun w q => hT w (s_MO w q)) t_MO k_MO n_MO hown hK hI g_x (by decide) rfl 1 (by decide) (hT _ w_810) (fun _ q => q) rfl rfl rfl (by rw [mo_len]; decide) (mo_set _) d_MO_unit_40 (fun H locs hI => ?_)
  generalize emf_5 : va_up mf 1 (.int (nI (tn + 1))) = mf_5 at hI
  have v_0 : mf_5 0 = .ref a0 := (congrFun emf_5 0).symm.trans ((va_up_ne _ _ (by decide)).trans v_0)
  have v_1 : mf_5 1 = .int (nI (tn + 1)) := (congrFun emf_5 1).symm.trans (va_up_self _ _ _)
  generalize eh_6 : fU h_4 x (40, 0, .inr (8, mo mf_5)) = h_6 at hI
  have hX := hX.set (e := .inr (8, mo mf_5)) g_x (by decide); rw [eh_6] at hX
  have hF := hF.set (e := .inr (8, mo mf_5)) g_x (by decide); rw [eh_6] at hF
  have g_a0 : h_6 a0 = some (41, 0, .inl ((G.2.1 0), 2000, .inl (fun i => nI (va_up tx tn U i)))) := (congrFun eh_6 a0).symm.trans (fU_keep g_a0 (f_neR g_a0 g_x (by decide)))
  have g_x : h_6 x = some (40, 0, .inr (8, mo mf_5)) := (congrFun eh_6 x).symm.trans (fU_self _ _ _)
  refine lv_iconst (v := 1) hx hb d_MO_unit_43 (by decide) ?_
  exact f_zret C hr rfl hI ⟨rfl, mf_5, g_x, fun j hj => (congrFun emf_5 j).symm.trans (va_up_ne _ _ hj), ⟨a0, ⟨v_0, v_1⟩, g_a0, by omega, fun i => by unfold va_up; split <;> first | omega | exact btx i⟩, hF⟩ hX (Nat.le_refl _) (Nat.le_refl _) d_MO_unit_44
set_option maxHeartbeats 4000000 in
set_option maxRecDepth 100000 in
/-- MO_unit  -/
theorem c_MO_unit_no (l : Launch) (G : gG) (h : fH) (sz : Nat) (x : Nat) (u : Int32) (mf : Nat → Value) (g_x : h x = some (40, 0, .inr (8, mo mf))) (tn : Nat) (tx : Nat → Nat) (hTx : mTx G h mf tn tx) (hbad : u < 1 ∨ 127 < u ∨ tn = 2000) : cM l y_MO_unit b_MO_unit 2 (some .boolean) { frames := 0, cells := 0, slots := 0, locals := 0 } G [.ref x, .int u] h sz (cQi G h sz (fun r h' => r = 0 ∧ h' = h)) := by
  refine f_start (by decide) (Nat.le_of_ble_eq_true rfl) ?_
  intro p e s m below meth c ls C hr hsz hI hl
  obtain ⟨hx, hb, hml, hown, hnm, hlk, hT, hG, hZ⟩ := id C
  have hK := hG.1
  have hX : fX h sz h := fX.rf
  have hl : lv_has ls 2 [(0, .ref x), (1, .int u)] := hl
  obtain ⟨a0, ⟨v_0, v_1⟩, g_a0, btn, btx⟩ := hTx
  refine lv_iload_n hx hb d_MO_unit_0 rfl (lv_at hl 1 rfl) ?_
  refine lv_iconst (v := 1) hx hb d_MO_unit_1 (by decide) ?_
  refine lv_icmp_lt (tgt := 21) hx hb d_MO_unit_2 (by decide) (fun c_1 => ?_) (fun c_1 => ?_)
  · skip
    refine lv_iconst (v := 0) hx hb d_MO_unit_21 (by decide) ?_
    exact f_zret C hr rfl hI ⟨rfl, rfl⟩ hX (Nat.le_refl _) (Nat.le_refl _) d_MO_unit_22
  · skip
    refine lv_iload_n hx hb d_MO_unit_5 rfl (lv_at hl 1 rfl) ?_
    refine lv_bipush (v := 127) hx hb d_MO_unit_6 (by decide) ?_
    refine lv_icmp_gt (tgt := 21) hx hb d_MO_unit_8 (by decide) (fun c_2 => ?_) (fun c_2 => ?_)
    · skip
      refine lv_iconst (v := 0) hx hb d_MO_unit_21 (by decide) ?_
      exact f_zret C hr rfl hI ⟨rfl, rfl⟩ hX (Nat.le_refl _) (Nat.le_refl _) d_MO_unit_22
    · skip
      refine lv_aload_n hx hb d_MO_unit_11 rfl (lv_at hl 0 rfl) ?_
      refine f_get (C := "DutyRulesModel") (T := T_MO) (N := 40) hx hb (fun w q => hT w (s_MO w q)) hown hK hI g_x rfl 1 (by decide) (hT _ w_810) (fun _ q => q) (mo_get (by decide) v_1) d_MO_unit_12 ?_
      refine lv_sipush (v := 2000) hx hb d_MO_unit_15 (by decide) ?_
      refine lv_icmp_ne (tgt := 23) hx hb d_MO_unit_18 (by decide) (fun c_3 => ?_) (fun c_3 => ?_)
      · have c_3 : ¬ tn = 2000 := fun q => c_3 ((n_eq (a := tn) (b := 2000) (by omega) (by omega)).mpr q)
        exfalso
        rcases hbad with q | q | q
        · exact c_1 q
        · exact c_2 q
        · exact c_3 q
      · have c_3 : tn = 2000 := (n_eq (a := tn) (b := 2000) (by omega) (by omega)).mp c_3
        refine lv_iconst (v := 0) hx hb d_MO_unit_21 (by decide) ?_
        exact f_zret C hr rfl hI ⟨rfl, rfl⟩ hX (Nat.le_refl _) (Nat.le_refl _) d_MO_unit_22
theorem gm_MO_edition : gM y_MO_edition b_MO_edition 4 (some .int) 1 := ⟨w_973, w_10, ⟨by decide, by decide⟩, by decide +kernel⟩
set_option maxHeartbeats 4000000 in
set_option maxRecDepth 100000 in
/-- MO_edition  -/
theorem c_MO_edition_no (l : Launch) (G : gG) (h : fH) (sz : Nat) (x : Nat) (dy : Int64) (mf : Nat → Value) (g_x : h x = some (40, 0, .inr (8, mo mf))) (ne : Nat) (ef rr rm : Nat → Nat) (hEd : mEd G h mf ne ef rr rm) (hbad : dy < 0 ∨ 100000 < dy) : cM l y_MO_edition b_MO_edition 4 (some .int) { frames := 0, cells := 0, slots := 0, locals := 0 } G [.ref x, .long dy] h sz (cQi G h sz (fun r h' => r = -1 ∧ h' = h)) := by
  refine f_start (by decide) (Nat.le_of_ble_eq_true rfl) ?_
  intro p e s m below meth c ls C hr hsz hI hl
  obtain ⟨hx, hb, hml, hown, hnm, hlk, hT, hG, hZ⟩ := id C
  have hK := hG.1
  have hX : fX h sz h := fX.rf
  have hl : lv_has ls 4 [(0, .ref x), (1, .long dy)] := hl
  obtain ⟨a3, a4, a5, ⟨v_3, v_4, v_5, v_6⟩, ⟨g_a3, g_a4, g_a5⟩, bne, brm, bef, brr, brk⟩ := hEd
  refine lv_lload_n hx hb d_MO_edition_0 rfl (lv_at hl 1 rfl) ?_
  refine lv_lconst (v := 0) hx hb d_MO_edition_1 (by decide) ?_
  refine f_lc_lt (tgt := 14) hx hb d_MO_edition_2 d_MO_edition_3 (by decide) (fun c_1 => ?_) (fun c_1 => ?_)
  · skip
    refine lv_iconst (v := (-1)) hx hb d_MO_edition_14 (by decide) ?_
    exact f_iret C hr hI ⟨rfl, rfl⟩ hX (Nat.le_refl _) (Nat.le_refl _) d_MO_edition_15
  · skip
    refine lv_lload_n hx hb d_MO_edition_6 rfl (lv_at hl 1 rfl) ?_
    refine lv_ldc2 (v := 100000) hx hb hown (hT _ w_974) d_MO_edition_7 ?_
    refine f_lc_le (tgt := 16) hx hb d_MO_edition_10 d_MO_edition_11 (by decide) (fun c_2 => ?_) (fun c_2 => ?_)
    · skip
      exfalso
      rcases hbad with q | q
      · exact c_1 q
      · exact l_nle q c_2
    · skip
      refine lv_iconst (v := (-1)) hx hb d_MO_edition_14 (by decide) ?_
      exact f_iret C hr hI ⟨rfl, rfl⟩ hX (Nat.le_refl _) (Nat.le_refl _) d_MO_edition_15
set_option maxHeartbeats 4000000 in
set_option maxRecDepth 100000 in
/-- MO_edition  -/
theorem c_MO_edition_full (l : Launch) (G : gG) (h : fH) (sz : Nat) (x d : Nat) (mf : Nat → Value) (g_x : h x = some (40, 0, .inr (8, mo mf))) (ne : Nat) (ef rr rm : Nat → Nat) (hEd : mEd G h mf ne ef rr rm) (bd : d ≤ 100000) (hfull : ne = 10) : cM l y_MO_edition b_MO_edition 4 (some .int) { frames := 0, cells := 0, slots := 0, locals := 0 } G [.ref x, .long (lN d)] h sz (cQi G h sz (fun r h' => r = -2 ∧ h' = h)) := by
  refine f_start (by decide) (Nat.le_of_ble_eq_true rfl) ?_
  intro p e s m below meth c ls C hr hsz hI hl
  obtain ⟨hx, hb, hml, hown, hnm, hlk, hT, hG, hZ⟩ := id C
  have hK := hG.1
  have hX : fX h sz h := fX.rf
  have hl : lv_has ls 4 [(0, .ref x), (1, .long (lN d))] := hl
  obtain ⟨a3, a4, a5, ⟨v_3, v_4, v_5, v_6⟩, ⟨g_a3, g_a4, g_a5⟩, bne, brm, bef, brr, brk⟩ := hEd
  subst hfull
  refine lv_lload_n hx hb d_MO_edition_0 rfl (lv_at hl 1 rfl) ?_
  refine lv_lconst (v := 0) hx hb d_MO_edition_1 (by decide) ?_
  refine f_lc_lt (tgt := 14) hx hb d_MO_edition_2 d_MO_edition_3 (by decide) (fun c_1 => absurd c_1 (fun q => absurd ((pk_lLT (a := d) (b := 0) (by omega) (by omega)).mp q) (by omega))) (fun c_1 => ?_)
  refine lv_lload_n hx hb d_MO_edition_6 rfl (lv_at hl 1 rfl) ?_
  refine lv_ldc2 (v := 100000) hx hb hown (hT _ w_974) d_MO_edition_7 ?_
  refine f_lc_le (tgt := 16) hx hb d_MO_edition_10 d_MO_edition_11 (by decide) (fun c_2 => ?_) (fun c_2 => absurd ((pk_lLE (a := d) (b := 100000) (by omega) (by omega)).mpr (by omega)) c_2)
  refine lv_aload_n hx hb d_MO_edition_16 rfl (lv_at hl 0 rfl) ?_
  refine f_get (C := "DutyRulesModel") (T := T_MO) (N := 40) hx hb (fun w q => hT w (s_MO w q)) hown hK hI g_x rfl 6 (by decide) (hT _ w_815) (fun _ q => q) (mo_get (by decide) v_6) d_MO_edition_17 ?_
  refine lv_bipush (v := 10) hx hb d_MO_edition_20 (by decide) ?_
  refine lv_icmp_ne (tgt := 28) hx hb d_MO_edition_22 (by decide) (fun c_3 => absurd rfl c_3) (fun c_3 => ?_)
  refine lv_bipush (v := (-2)) hx hb d_MO_edition_25 (by decide) ?_
  exact f_iret C hr hI ⟨rfl, rfl⟩ hX (Nat.le_refl _) (Nat.le_refl _) d_MO_edition_27
theorem gm_MO_open : gM y_MO_open b_MO_open 2 (some .int) 1 := ⟨w_1056, w_10, ⟨by decide, by decide⟩, by decide +kernel⟩
set_option maxHeartbeats 4000000 in
set_option maxRecDepth 100000 in
/-- MO_open  -/
theorem c_MO_open (l : Launch) (G : gG) (h : fH) (sz : Nat) (x : Nat) (wh : Int32) (mf : Nat → Value) (g_x : h x = some (40, 0, .inr (8, mo mf))) (sL sR : Int32) (L : List (Nat × Nat × Nat)) (hSh : mSh G h mf sL sR L) : cM l y_MO_open b_MO_open 2 (some .int) { frames := 0, cells := 0, slots := 0, locals := 0 } G [.ref x, .int wh] h sz (cQi G h sz (fun r h' => r = (if sL = -1 then -1 else (if wh = 0 then sL else (if wh = 1 then sR else (if wh = 2 then nI L.length else -1)))) ∧ h' = h)) := by
  refine f_start (by decide) (Nat.le_of_ble_eq_true rfl) ?_
  intro p e s m below meth c ls C hr hsz hI hl
  obtain ⟨hx, hb, hml, hown, hnm, hlk, hT, hG, hZ⟩ := id C
  have hK := hG.1
  have hX : fX h sz h := fX.rf
  have hl : lv_has ls 2 [(0, .ref x), (1, .int wh)] := hl
  obtain ⟨a24, a25, a26, sl, sr, sc, ⟨v_21, v_22, v_23, v_24, v_25, v_26⟩, ⟨g_a24, g_a25, g_a26⟩, bL, hq⟩ := hSh
  refine lv_aload_n hx hb d_MO_open_0 rfl (lv_at hl 0 rfl) ?_
  refine f_get (C := "DutyRulesModel") (T := T_MO) (N := 40) hx hb (fun w q => hT w (s_MO w q)) hown hK hI g_x rfl 21 (by decide) (hT _ w_830) (fun _ q => q) (mo_get (by decide) v_21) d_MO_open_1 ?_
  refine lv_iconst (v := (-1)) hx hb d_MO_open_4 (by decide) ?_
  refine lv_icmp_ne (tgt := 10) hx hb d_MO_open_5 (by decide) (fun c_1 => ?_) (fun c_1 => ?_)
  · skip
    refine lv_iload_n hx hb d_MO_open_10 rfl (lv_at hl 1 rfl) ?_
    refine lv_if_ne (tgt := 21) hx hb d_MO_open_11 (by decide) (fun c_2 => ?_) (fun c_2 => ?_)
    · skip
      refine lv_iload_n hx hb d_MO_open_21 rfl (lv_at hl 1 rfl) ?_
      refine lv_iconst (v := 1) hx hb d_MO_open_22 (by decide) ?_
      refine lv_icmp_ne (tgt := 33) hx hb d_MO_open_23 (by decide) (fun c_3 => ?_) (fun c_3 => ?_)
      · skip
        refine lv_iload_n hx hb d_MO_open_33 rfl (lv_at hl 1 rfl) ?_
        refine lv_iconst (v := 2) hx hb d_MO_open_34 (by decide) ?_
        refine lv_icmp_ne (tgt := 45) hx hb d_MO_open_35 (by decide) (fun c_4 => ?_) (fun c_4 => ?_)
        · skip
          refine lv_iconst (v := (-1)) hx hb d_MO_open_45 (by decide) ?_
          exact f_iret C hr hI ⟨by rw [if_neg c_1, if_neg c_2, if_neg c_3, if_neg c_4], rfl⟩ hX (Nat.le_refl _) (Nat.le_refl _) d_MO_open_46
        · skip
          refine lv_aload_n hx hb d_MO_open_38 rfl (lv_at hl 0 rfl) ?_
          refine f_get (C := "DutyRulesModel") (T := T_MO) (N := 40) hx hb (fun w q => hT w (s_MO w q)) hown hK hI g_x rfl 23 (by decide) (hT _ w_832) (fun _ q => q) (mo_get (by decide) v_23) d_MO_open_39 ?_
          refine lv_goto (tgt := 46) hx hb d_MO_open_42 (by decide) ?_
          exact f_iret C hr hI ⟨by rw [if_neg c_1, if_neg c_2, if_neg c_3, if_pos c_4], rfl⟩ hX (Nat.le_refl _) (Nat.le_refl _) d_MO_open_46
      · skip
        refine lv_aload_n hx hb d_MO_open_26 rfl (lv_at hl 0 rfl) ?_
        refine f_get (C := "DutyRulesModel") (T := T_MO) (N := 40) hx hb (fun w q => hT w (s_MO w q)) hown hK hI g_x rfl 22 (by decide) (hT _ w_831) (fun _ q => q) (mo_get (by decide) v_22) d_MO_open_27 ?_
        refine lv_goto (tgt := 46) hx hb d_MO_open_30 (by decide) ?_
        exact f_iret C hr hI ⟨by rw [if_neg c_1, if_neg c_2, if_pos c_3], rfl⟩ hX (Nat.le_refl _) (Nat.le_refl _) d_MO_open_46
    · skip
      refine lv_aload_n hx hb d_MO_open_14 rfl (lv_at hl 0 rfl) ?_
      refine f_get (C := "DutyRulesModel") (T := T_MO) (N := 40) hx hb (fun w q => hT w (s_MO w q)) hown hK hI g_x rfl 21 (by decide) (hT _ w_830) (fun _ q => q) (mo_get (by decide) v_21) d_MO_open_15 ?_
      refine lv_goto (tgt := 46) hx hb d_MO_open_18 (by decide) ?_
      exact f_iret C hr hI ⟨by rw [if_neg c_1, if_pos c_2], rfl⟩ hX (Nat.le_refl _) (Nat.le_refl _) d_MO_open_46
  · skip
    refine lv_iconst (v := (-1)) hx hb d_MO_open_8 (by decide) ?_
    exact f_iret C hr hI ⟨by rw [if_pos c_1], rfl⟩ hX (Nat.le_refl _) (Nat.le_refl _) d_MO_open_9
