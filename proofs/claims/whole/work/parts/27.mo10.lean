theorem gm_MO_interest : gM y_MO_interest b_MO_interest 10 (some .long) 3 := ⟨w_1094, w_10, ⟨by decide, by decide⟩, by decide +kernel⟩
set_option maxHeartbeats 4000000 in
set_option maxRecDepth 100000 in
/-- MO_interest  -/
theorem c_MO_interest_mo (l : Launch) (G : gG) (h : fH) (sz : Nat) (x : Nat) (mo1 : Int32) (dy : Int64) (pt : Int32) (hbad : mo1 < 0 ∨ 3001 ≤ mo1) : cM l y_MO_interest b_MO_interest 10 (some .long) { frames := 2, cells := 0, slots := 0, locals := 55 } G [.ref x, .int mo1, .long dy, .int pt] h sz (cQl G h sz (fun r h' => r = (-9223372036854775808) ∧ h' = h)) := by
  refine f_start (by decide) (Nat.le_of_ble_eq_true rfl) ?_
  intro p e s m below meth c ls C hr hsz hI hl
  obtain ⟨hx, hb, hml, hown, hnm, hlk, hT, hG, hZ⟩ := id C
  have hK := hG.1
  have hX : fX h sz h := fX.rf
  have hl : lv_has ls 10 [(0, .ref x), (1, .int mo1), (2, .long dy), (4, .int pt)] := hl
  refine lv_iload_n hx hb d_MO_interest_0 rfl (lv_at hl 1 rfl) ?_
  refine f_calli hI (f_runS C hI (c_MO_isMonth l G h _ mo1) gm_MO_isMonth w_1067 w_1066 rfl hl.1 rfl (Nat.le_of_ble_eq_true rfl) ⟨Nat.le_of_ble_eq_true rfl, Nat.le_of_ble_eq_true rfl⟩ d_MO_interest_1 ⟨Nat.le_of_ble_eq_true rfl, Nat.le_of_ble_eq_true rfl⟩) (fun r_1 h8 H9 locs hp9 hX9 hz9 hI => ?_)
  obtain ⟨rfl, e9⟩ := hp9
  rw [e9] at hI
  clear hX9 e9
  rw [rng_bad hbad]
  refine lv_if_eq (tgt := 34) hx hb d_MO_interest_4 (by decide) (fun c_2 => ?_) (fun c_2 => absurd (by decide) c_2)
  refine lv_ldc2 (v := (-9223372036854775808)) hx hb hown (hT _ w_1017) d_MO_interest_34 ?_
  exact f_lret C hr hI ⟨rfl, rfl⟩ hX (Nat.le_refl _) (Nat.le_refl _) d_MO_interest_37
set_option maxHeartbeats 4000000 in
set_option maxRecDepth 100000 in
/-- MO_interest  -/
theorem c_MO_interest_no (l : Launch) (G : gG) (h : fH) (sz : Nat) (x mn : Nat) (dy : Int64) (pt : Int32) (mf : Nat → Value) (g_x : h x = some (40, 0, .inr (8, mo mf))) (th du wr : Nat → Nat) (rn : Nat) (rl : Nat → Nat) (rD rM : Nat → Int64) (hRt : mRt G h mf th du wr rn rl rD rM) (bm : mn ≤ 3000) (hbad : wr mn = 0 ∨ (dy < 0 ∨ 100000 < dy) ∨ pt < 0 ∨ ¬ pt ≤ 1) : cM l y_MO_interest b_MO_interest 10 (some .long) { frames := 2, cells := 0, slots := 0, locals := 55 } G [.ref x, .int (nI mn), .long dy, .int pt] h sz (cQl G h sz (fun r h' => r = (-9223372036854775808) ∧ h' = h)) := by
  refine f_start (by decide) (Nat.le_of_ble_eq_true rfl) ?_
  intro p e s m below meth c ls C hr hsz hI hl
  obtain ⟨hx, hb, hml, hown, hnm, hlk, hT, hG, hZ⟩ := id C
  have hK := hG.1
  have hX : fX h sz h := fX.rf
  have hl : lv_has ls 10 [(0, .ref x), (1, .int (nI mn)), (2, .long dy), (4, .int pt)] := hl
  obtain ⟨a27, a28, a29, a31, a32, a33, ⟨v_27, v_28, v_29, v_30, v_31, v_32, v_33⟩, ⟨g_a27, g_a28, g_a29, g_a31, g_a32, g_a33⟩, brn, bth, bdu, bwr, brl⟩ := hRt
  have bw := bwr mn
  refine lv_iload_n hx hb d_MO_interest_0 rfl (lv_at hl 1 rfl) ?_
  refine f_calli hI (f_runS C hI (c_MO_isMonth l G h _ (nI mn)) gm_MO_isMonth w_1067 w_1066 rfl hl.1 rfl (Nat.le_of_ble_eq_true rfl) ⟨Nat.le_of_ble_eq_true rfl, Nat.le_of_ble_eq_true rfl⟩ d_MO_interest_1 ⟨Nat.le_of_ble_eq_true rfl, Nat.le_of_ble_eq_true rfl⟩) (fun r_1 h8 H9 locs hp9 hX9 hz9 hI => ?_)
  obtain ⟨rfl, e9⟩ := hp9
  rw [e9] at hI
  clear hX9 e9
  rw [rng_ok (a := nI mn) (N := 3001) (nI_pos (by omega)) (fun q => absurd ((n_le (a := 3001) (b := mn) (by omega) (by omega)).mp q) (by omega))]
  refine lv_if_eq (tgt := 34) hx hb d_MO_interest_4 (by decide) (fun c_2 => absurd c_2 (by decide)) (fun c_2 => ?_)
  refine lv_aload_n hx hb d_MO_interest_7 rfl (lv_at hl 0 rfl) ?_
  refine f_get (C := "DutyRulesModel") (T := T_MO) (N := 40) hx hb (fun w q => hT w (s_MO w q)) hown hK hI g_x rfl 29 (by decide) (hT _ w_838) (fun _ q => q) (mo_get (by decide) v_29) d_MO_interest_8 ?_
  refine lv_iload_n hx hb d_MO_interest_11 rfl (lv_at hl 1 rfl) ?_
  refine f_zaldn (k := mn) (v := (nI (wr mn))) hx hb hI g_a29 (fT.ofK hK (t0 := 2) rfl) (by omega) (by omega) rfl d_MO_interest_12 ?_
  refine lv_if_eq (tgt := 34) hx hb d_MO_interest_13 (by decide) (fun c_3 => ?_) (fun c_3 => ?_)
  · have c_3 : (wr mn) = 0 := (n_eq (a := (wr mn)) (b := 0) (by have := bwr mn; omega) (by omega)).mp c_3
    refine lv_ldc2 (v := (-9223372036854775808)) hx hb hown (hT _ w_1017) d_MO_interest_34 ?_
    exact f_lret C hr hI ⟨rfl, rfl⟩ hX (Nat.le_refl _) (Nat.le_refl _) d_MO_interest_37
  · have c_3 : ¬ (wr mn) = 0 := fun q => c_3 ((n_eq (a := (wr mn)) (b := 0) (by have := bwr mn; omega) (by omega)).mpr q)
    refine lv_lload_n hx hb d_MO_interest_16 rfl (lv_at hl 2 rfl) ?_
    refine f_calli hI (f_runS C hI (c_MO_isDay l G h _ dy) gm_MO_isDay w_999 w_998 rfl hl.1 rfl (Nat.le_of_ble_eq_true rfl) ⟨Nat.le_of_ble_eq_true rfl, Nat.le_of_ble_eq_true rfl⟩ d_MO_interest_17 ⟨Nat.le_of_ble_eq_true rfl, Nat.le_of_ble_eq_true rfl⟩) (fun r_4 h8 H9 locs hp9 hX9 hz9 hI => ?_)
    obtain ⟨rfl, e9⟩ := hp9
    rw [e9] at hI
    clear hX9 e9
    refine lv_if_eq (tgt := 34) hx hb d_MO_interest_20 (by decide) (fun c_5 => ?_) (fun c_5 => ?_)
    · skip
      refine lv_ldc2 (v := (-9223372036854775808)) hx hb hown (hT _ w_1017) d_MO_interest_34 ?_
      exact f_lret C hr hI ⟨rfl, rfl⟩ hX (Nat.le_refl _) (Nat.le_refl _) d_MO_interest_37
    · skip
      refine lv_iload hx hb d_MO_interest_23 (lv_at hl 3 rfl) ?_
      refine lv_if_lt (tgt := 34) hx hb d_MO_interest_25 (by decide) (fun c_6 => ?_) (fun c_6 => ?_)
      · skip
        refine lv_ldc2 (v := (-9223372036854775808)) hx hb hown (hT _ w_1017) d_MO_interest_34 ?_
        exact f_lret C hr hI ⟨rfl, rfl⟩ hX (Nat.le_refl _) (Nat.le_refl _) d_MO_interest_37
      · skip
        refine lv_iload hx hb d_MO_interest_28 (lv_at hl 3 rfl) ?_
        refine lv_iconst (v := 1) hx hb d_MO_interest_30 (by decide) ?_
        refine lv_icmp_le (tgt := 38) hx hb d_MO_interest_31 (by decide) (fun c_7 => ?_) (fun c_7 => ?_)
        · skip
          exfalso
          rcases hbad with q | q | q | q
          · exact c_3 q
          · exact c_5 (day_bad q)
          · exact c_6 q
          · exact q c_7
        · skip
          refine lv_ldc2 (v := (-9223372036854775808)) hx hb hown (hT _ w_1017) d_MO_interest_34 ?_
          exact f_lret C hr hI ⟨rfl, rfl⟩ hX (Nat.le_refl _) (Nat.le_refl _) d_MO_interest_37
set_option maxHeartbeats 4000000 in
set_option maxRecDepth 100000 in
/-- MO_interest  -/
theorem c_MO_interest_ok (l : Launch) (G : gG) (h : fH) (sz : Nat) (x mn d : Nat) (pt : Int32) (mf : Nat → Value) (g_x : h x = some (40, 0, .inr (8, mo mf))) (ne : Nat) (ef rr rm : Nat → Nat) (hEd : mEd G h mf ne ef rr rm) (th du wr : Nat → Nat) (rn : Nat) (rl : Nat → Nat) (rD rM : Nat → Int64) (hRt : mRt G h mf th du wr rn rl rD rM) (bm : mn ≤ 3000) (hwr : wr mn = 1) (bd : d ≤ 100000) (hp1 : ¬ pt < 0) (hp2 : pt ≤ 1) : cM l y_MO_interest b_MO_interest 10 (some .long) { frames := 2, cells := 0, slots := 0, locals := 55 } G [.ref x, .int (nI mn), .long (lN d), .int pt] h sz (cQl G h sz (fun r h' => r = frA (sumN (duN th du mn) 30 * lateH ne ef rr rm (30 * mn + 29) * (d - (30 * mn + 29))) 100 pt ∧ h' = h)) := by
  refine f_start (by decide) (Nat.le_of_ble_eq_true rfl) ?_
  intro p e s m below meth c ls C hr hsz hI hl
  obtain ⟨hx, hb, hml, hown, hnm, hlk, hT, hG, hZ⟩ := id C
  have hK := hG.1
  have hX : fX h sz h := fX.rf
  have hl : lv_has ls 10 [(0, .ref x), (1, .int (nI mn)), (2, .long (lN d)), (4, .int pt)] := hl
  obtain ⟨_, _, _, _, _, bne, brm, bef, brr, brk⟩ := id hEd
  obtain ⟨a27, a28, a29, a31, a32, a33, ⟨v_27, v_28, v_29, v_30, v_31, v_32, v_33⟩, ⟨g_a27, g_a28, g_a29, g_a31, g_a32, g_a33⟩, brn, bth, bdu, bwr, brl⟩ := hRt
  have hpt := part_01 hp1 hp2
  have hs9 := sumN_le (duN_le (th := th) bdu mn) 30
  refine lv_iload_n hx hb d_MO_interest_0 rfl (lv_at hl 1 rfl) ?_
  refine f_calli hI (f_runS C hI (c_MO_isMonth l G h _ (nI mn)) gm_MO_isMonth w_1067 w_1066 rfl hl.1 rfl (Nat.le_of_ble_eq_true rfl) ⟨Nat.le_of_ble_eq_true rfl, Nat.le_of_ble_eq_true rfl⟩ d_MO_interest_1 ⟨Nat.le_of_ble_eq_true rfl, Nat.le_of_ble_eq_true rfl⟩) (fun r_1 h8 H9 locs hp9 hX9 hz9 hI => ?_)
  obtain ⟨rfl, e9⟩ := hp9
  rw [e9] at hI
  clear hX9 e9
  rw [rng_ok (a := nI mn) (N := 3001) (nI_pos (by omega)) (fun q => absurd ((n_le (a := 3001) (b := mn) (by omega) (by omega)).mp q) (by omega))]
  refine lv_if_eq (tgt := 34) hx hb d_MO_interest_4 (by decide) (fun c_2 => absurd c_2 (by decide)) (fun c_2 => ?_)
  refine lv_aload_n hx hb d_MO_interest_7 rfl (lv_at hl 0 rfl) ?_
  refine f_get (C := "DutyRulesModel") (T := T_MO) (N := 40) hx hb (fun w q => hT w (s_MO w q)) hown hK hI g_x rfl 29 (by decide) (hT _ w_838) (fun _ q => q) (mo_get (by decide) v_29) d_MO_interest_8 ?_
  refine lv_iload_n hx hb d_MO_interest_11 rfl (lv_at hl 1 rfl) ?_
  refine f_zaldn (k := mn) (v := (nI (wr mn))) hx hb hI g_a29 (fT.ofK hK (t0 := 2) rfl) (by omega) (by omega) rfl d_MO_interest_12 ?_
  refine lv_if_eq (tgt := 34) hx hb d_MO_interest_13 (by decide) (fun c_3 => absurd c_3 (fun q => by rw [hwr] at q; exact absurd q (by decide))) (fun c_3 => ?_)
  refine lv_lload_n hx hb d_MO_interest_16 rfl (lv_at hl 2 rfl) ?_
  refine f_calli hI (f_runS C hI (c_MO_isDay l G h _ (lN d)) gm_MO_isDay w_999 w_998 rfl hl.1 rfl (Nat.le_of_ble_eq_true rfl) ⟨Nat.le_of_ble_eq_true rfl, Nat.le_of_ble_eq_true rfl⟩ d_MO_interest_17 ⟨Nat.le_of_ble_eq_true rfl, Nat.le_of_ble_eq_true rfl⟩) (fun r_4 h8 H9 locs hp9 hX9 hz9 hI => ?_)
  obtain ⟨rfl, e9⟩ := hp9
  rw [e9] at hI
  clear hX9 e9
  refine f_asi (day_ok (d := d) (n := 100000) bd (by decide)) ?_
  refine lv_if_eq (tgt := 34) hx hb d_MO_interest_20 (by decide) (fun c_5 => absurd c_5 (by decide)) (fun c_5 => ?_)
  refine lv_iload hx hb d_MO_interest_23 (lv_at hl 3 rfl) ?_
  refine lv_if_lt (tgt := 34) hx hb d_MO_interest_25 (by decide) (fun c_6 => absurd c_6 hp1) (fun c_6 => ?_)
  refine lv_iload hx hb d_MO_interest_28 (lv_at hl 3 rfl) ?_
  refine lv_iconst (v := 1) hx hb d_MO_interest_30 (by decide) ?_
  refine lv_icmp_le (tgt := 38) hx hb d_MO_interest_31 (by decide) (fun c_7 => ?_) (fun c_7 => absurd hp2 c_7)
  refine lv_aload_n hx hb d_MO_interest_38 rfl (lv_at hl 0 rfl) ?_
  refine lv_iload_n hx hb d_MO_interest_39 rfl (lv_at hl 1 rfl) ?_
  refine f_calll hI (f_runS C hI (c_MO_lastOf l G h _ (nI mn)) gm_MO_lastOf w_1071 w_1070 rfl hl.1 rfl (Nat.le_of_ble_eq_true rfl) ⟨Nat.le_of_ble_eq_true rfl, Nat.le_of_ble_eq_true rfl⟩ d_MO_interest_40 ⟨Nat.le_of_ble_eq_true rfl, Nat.le_of_ble_eq_true rfl⟩) (fun r_8 h8 H9 locs hp9 hX9 hz9 hI => ?_)
  obtain ⟨rfl, e9⟩ := hp9
  rw [e9] at hI
  clear hX9 e9
  refine f_asl (lastOf_n (m := mn) (by omega)) ?_
  refine f_calli hI (f_runV C hI (c_MO_editionOf l G h _ x (30 * mn + 29) mf g_x ne ef rr rm hEd (by omega)) gm_MO_editionOf w_1024 p_MO_editionOf w_1022 g_x rfl rfl rfl hl.1 rfl (Nat.le_of_ble_eq_true rfl) ⟨Nat.le_of_ble_eq_true rfl, Nat.le_of_ble_eq_true rfl⟩ d_MO_interest_43 ⟨Nat.le_of_ble_eq_true rfl, Nat.le_of_ble_eq_true rfl⟩) (fun r_9 h8 H9 locs hp9 hX9 hz9 hI => ?_)
  obtain ⟨rfl, e9⟩ := hp9
  rw [e9] at hI
  clear hX9 e9
  rcases en : eo ef (30 * mn + 29) ne with _ | e1
  · have hlh : lateH ne ef rr rm (30 * mn + 29) = 0 := by unfold lateH; rw [en]
    refine lv_istore (lv' := [(5, .int (-1)), (0, .ref x), (1, .int (nI mn)), (2, .long (lN d)), (4, .int pt)]) hx hb d_MO_interest_46 hl (by decide) rfl (fun ls hl => ?_)
    refine lv_iload hx hb d_MO_interest_48 (lv_at hl 0 rfl) ?_
    refine lv_iconst (v := (-1)) hx hb d_MO_interest_50 (by decide) ?_
    refine lv_icmp_ne (tgt := 58) hx hb d_MO_interest_51 (by decide) (fun c_10 => absurd rfl c_10) (fun c_10 => ?_)
    refine lv_iconst (v := (-1)) hx hb d_MO_interest_54 (by decide) ?_
    refine lv_goto (tgt := 67) hx hb d_MO_interest_55 (by decide) ?_
    refine lv_istore (lv' := [(6, .int (-1)), (5, .int (-1)), (0, .ref x), (1, .int (nI mn)), (2, .long (lN d)), (4, .int pt)]) hx hb d_MO_interest_67 hl (by decide) rfl (fun ls hl => ?_)
    refine lv_iload hx hb d_MO_interest_69 (lv_at hl 0 rfl) ?_
    refine lv_iconst (v := (-1)) hx hb d_MO_interest_71 (by decide) ?_
    refine lv_icmp_eq (tgt := 84) hx hb d_MO_interest_72 (by decide) (fun c_11 => ?_) (fun c_11 => absurd rfl c_11)
    refine lv_iload hx hb d_MO_interest_84 (lv_at hl 5 rfl) ?_
    refine lv_i2l hx hb d_MO_interest_86 rfl ?_
    exact f_lret C hr hI ⟨by rw [show sumN (duN th du mn) 30 * lateH ne ef rr rm (30 * mn + 29) * (d - (30 * mn + 29)) = 0 by rw [hlh, Nat.mul_zero, Nat.zero_mul]]; exact pt_fr hpt, rfl⟩ hX (Nat.le_refl _) (Nat.le_refl _) d_MO_interest_87
  · have hen := eo_lt en
    have be : e1 < 11 := by omega
    refine lv_istore (lv' := [(5, .int (nI e1)), (0, .ref x), (1, .int (nI mn)), (2, .long (lN d)), (4, .int pt)]) hx hb d_MO_interest_46 hl (by decide) rfl (fun ls hl => ?_)
    refine lv_iload hx hb d_MO_interest_48 (lv_at hl 0 rfl) ?_
    refine lv_iconst (v := (-1)) hx hb d_MO_interest_50 (by decide) ?_
    refine lv_icmp_ne (tgt := 58) hx hb d_MO_interest_51 (by decide) (fun c_12 => ?_) (fun c_12 => absurd c_12 (n_m1 (by omega)))
    refine lv_aload_n hx hb d_MO_interest_58 rfl (lv_at hl 1 rfl) ?_
    refine lv_iload hx hb d_MO_interest_59 (lv_at hl 0 rfl) ?_
    refine lv_iconst (v := 5) hx hb d_MO_interest_61 (by decide) ?_
    refine lv_lconst (v := 0) hx hb d_MO_interest_62 (by decide) ?_
    refine lv_lconst (v := 0) hx hb d_MO_interest_63 (by decide) ?_
    refine f_calli hI (f_runV C hI (c_MO_find l G h _ x e1 5 0 0 mf g_x ne ef rr rm hEd (by omega) (by omega) (by omega) (by omega)) gm_MO_find w_1032 p_MO_find w_1030 g_x rfl rfl rfl hl.1 rfl (Nat.le_of_ble_eq_true rfl) ⟨Nat.le_of_ble_eq_true rfl, Nat.le_of_ble_eq_true rfl⟩ d_MO_interest_64 ⟨Nat.le_of_ble_eq_true rfl, Nat.le_of_ble_eq_true rfl⟩) (fun r_13 h8 H9 locs hp9 hX9 hz9 hI => ?_)
    obtain ⟨rfl, e9⟩ := hp9
    rw [e9] at hI
    clear hX9 e9
    rcases eL : ff (fp rr e1 5 0 0) 0 (rm e1) with _ | r
    · have hlh : lateH ne ef rr rm (30 * mn + 29) = 0 := by unfold lateH; rw [en]; dsimp only; rw [eL]
      refine lv_istore (lv' := [(6, .int (-1)), (5, .int (nI e1)), (0, .ref x), (1, .int (nI mn)), (2, .long (lN d)), (4, .int pt)]) hx hb d_MO_interest_67 hl (by decide) rfl (fun ls hl => ?_)
      refine lv_iload hx hb d_MO_interest_69 (lv_at hl 0 rfl) ?_
      refine lv_iconst (v := (-1)) hx hb d_MO_interest_71 (by decide) ?_
      refine lv_icmp_eq (tgt := 84) hx hb d_MO_interest_72 (by decide) (fun c_14 => ?_) (fun c_14 => absurd rfl c_14)
      refine lv_iload hx hb d_MO_interest_84 (lv_at hl 5 rfl) ?_
      refine lv_i2l hx hb d_MO_interest_86 rfl ?_
      exact f_lret C hr hI ⟨by rw [show sumN (duN th du mn) 30 * lateH ne ef rr rm (30 * mn + 29) * (d - (30 * mn + 29)) = 0 by rw [hlh, Nat.mul_zero, Nat.zero_mul]]; exact pt_fr hpt, rfl⟩ hX (Nat.le_refl _) (Nat.le_refl _) d_MO_interest_87
    · have hlh : lateH ne ef rr rm (30 * mn + 29) = rr ((e1 * 40 + r) * 5 + 1) := by unfold lateH; rw [en]; dsimp only; rw [eL]
      obtain ⟨-, r2, r3⟩ := ff_in eL
      have hkr := fp_k r3
      have hrm := brm e1
      have hv := (brk e1 r be (by omega)).2.2.2.2.2.2.2 hkr
      refine lv_istore (lv' := [(6, .int (nI r)), (5, .int (nI e1)), (0, .ref x), (1, .int (nI mn)), (2, .long (lN d)), (4, .int pt)]) hx hb d_MO_interest_67 hl (by decide) rfl (fun ls hl => ?_)
      refine lv_iload hx hb d_MO_interest_69 (lv_at hl 0 rfl) ?_
      refine lv_iconst (v := (-1)) hx hb d_MO_interest_71 (by decide) ?_
      refine lv_icmp_eq (tgt := 84) hx hb d_MO_interest_72 (by decide) (fun c_15 => absurd c_15 (n_m1 (by omega))) (fun c_15 => ?_)
      refine lv_lload_n hx hb d_MO_interest_75 rfl (lv_at hl 4 rfl) ?_
      refine lv_iload_n hx hb d_MO_interest_76 rfl (lv_at hl 3 rfl) ?_
      refine f_calll hI (f_runS C hI (c_MO_lastOf l G h _ (nI mn)) gm_MO_lastOf w_1071 w_1070 rfl hl.1 rfl (Nat.le_of_ble_eq_true rfl) ⟨Nat.le_of_ble_eq_true rfl, Nat.le_of_ble_eq_true rfl⟩ d_MO_interest_77 ⟨Nat.le_of_ble_eq_true rfl, Nat.le_of_ble_eq_true rfl⟩) (fun r_16 h8 H9 locs hp9 hX9 hz9 hI => ?_)
      obtain ⟨rfl, e9⟩ := hp9
      rw [e9] at hI
      clear hX9 e9
      refine f_asl (lastOf_n (m := mn) (by omega)) ?_
      refine f_lc_gt (tgt := 88) hx hb d_MO_interest_80 d_MO_interest_81 (by decide) (fun c_17 => ?_) (fun c_17 => ?_)
      · have c_17 : (30 * mn + 29) < d := (pk_lLT (a := (30 * mn + 29)) (b := d) (by omega) (by omega)).mp c_17
        refine lv_lconst (v := 0) hx hb d_MO_interest_88 (by decide) ?_
        refine lv_lstore (lv' := [(7, .long 0), (6, .int (nI r)), (5, .int (nI e1)), (0, .ref x), (1, .int (nI mn)), (2, .long (lN d)), (4, .int pt)]) hx hb d_MO_interest_89 hl (by decide) rfl (fun ls hl => ?_)
        refine lv_iconst (v := 0) hx hb d_MO_interest_91 (by decide) ?_
        refine lv_istore (lv' := [(9, .int 0), (7, .long 0), (6, .int (nI r)), (5, .int (nI e1)), (0, .ref x), (1, .int (nI mn)), (2, .long (lN d)), (4, .int pt)]) hx hb d_MO_interest_92 hl (by decide) rfl (fun ls hl => ?_)
        have LOOP : ∀ (k n : Nat), n + k = 30 → ∀ (H : Heap) (locs : List Loc), fI G.1 g_cl (fA h sz) s.heap h H locs → ∀ ls : Array Slot, lv_has ls 10 [(0, .ref x), (1, .int (nI mn)), (2, .long (lN d)), (4, .int pt), (5, .int (nI e1)), (6, .int (nI r)), (7, .long (lN (sumN (duN th du mn) n))), (9, .int (nI n))] → W p l e { frames := 2, cells := 0, slots := 0, locals := 55 } s m ([.ref x, .int (nI mn), .long (lN d), .int pt] : List Value).toArray below meth c H locs 0 0 (MQ below (cQl G h sz (fun r h' => r = frA (sumN (duN th du mn) 30 * lateH ne ef rr rm (30 * mn + 29) * (d - (30 * mn + 29))) 100 pt ∧ h' = h)) ([.ref x, .int (nI mn), .long (lN d), .int pt] : List Value).toArray s 0 0 (fA h sz)) (F0 m 94 ls []) := by
          intro k
          induction k with
          | zero =>
            intro n hn H locs hI ls hl
            have hn2 : 30 = n := by omega
            subst hn2
            have hm9 : sumN (duN th du mn) 30 * (rr ((e1 * 40 + r) * 5 + 1)) ≤ 30000000000 * 100 := mulle hs9 hv
            have hm8 : sumN (duN th du mn) 30 * (rr ((e1 * 40 + r) * 5 + 1)) * (d - (30 * mn + 29)) ≤ 3000000000000 * 100000 := mulle hm9 (by omega)
            refine lv_iload hx hb d_MO_interest_94 (lv_at hl 7 rfl) ?_
            refine lv_bipush (v := 30) hx hb d_MO_interest_96 (by decide) ?_
            refine lv_icmp_ge (tgt := 144) hx hb d_MO_interest_98 (by decide) (fun c_118 => ?_) (fun c_118 => absurd (by decide) c_118)
            refine lv_lload hx hb d_MO_interest_144 (lv_at hl 6 rfl) ?_
            refine lv_aload_n hx hb d_MO_interest_146 rfl (lv_at hl 0 rfl) ?_
            refine lv_iload hx hb d_MO_interest_147 (lv_at hl 4 rfl) ?_
            refine lv_iload hx hb d_MO_interest_149 (lv_at hl 5 rfl) ?_
            refine lv_iconst (v := 1) hx hb d_MO_interest_151 (by decide) ?_
            refine f_calli hI (f_runV C hI (c_MO_value l G h _ x e1 r 1 mf g_x ne ef rr rm hEd (by omega) (by omega) (by omega)) gm_MO_value w_1036 p_MO_value w_1034 g_x rfl rfl rfl hl.1 rfl (Nat.le_of_ble_eq_true rfl) ⟨Nat.le_of_ble_eq_true rfl, Nat.le_of_ble_eq_true rfl⟩ d_MO_interest_152 ⟨Nat.le_of_ble_eq_true rfl, Nat.le_of_ble_eq_true rfl⟩) (fun r_119 h8 H9 locs hp9 hX9 hz9 hI => ?_)
            obtain ⟨rfl, e9⟩ := hp9
            rw [e9] at hI
            clear hX9 e9
            refine lv_i2l (v := lN (rr ((e1 * 40 + r) * 5 + 1))) hx hb d_MO_interest_155 (n_i2l (by have := brr ((e1 * 40 + r) * 5 + 1); omega)) ?_
            refine lv_lmul hx hb d_MO_interest_156 ?_
            refine f_asl (lN_mul (sumN (duN th du mn) 30) (rr ((e1 * 40 + r) * 5 + 1))) ?_
            refine lv_lload_n hx hb d_MO_interest_157 rfl (lv_at hl 2 rfl) ?_
            refine lv_iload_n hx hb d_MO_interest_158 rfl (lv_at hl 1 rfl) ?_
            refine f_calll hI (f_runS C hI (c_MO_lastOf l G h _ (nI mn)) gm_MO_lastOf w_1071 w_1070 rfl hl.1 rfl (Nat.le_of_ble_eq_true rfl) ⟨Nat.le_of_ble_eq_true rfl, Nat.le_of_ble_eq_true rfl⟩ d_MO_interest_159 ⟨Nat.le_of_ble_eq_true rfl, Nat.le_of_ble_eq_true rfl⟩) (fun r_120 h8 H9 locs hp9 hX9 hz9 hI => ?_)
            obtain ⟨rfl, e9⟩ := hp9
            rw [e9] at hI
            clear hX9 e9
            refine f_asl (lastOf_n (m := mn) (by omega)) ?_
            refine lv_lsub hx hb d_MO_interest_162 ?_
            refine f_asl (lN_sub (a := d) (b := (30 * mn + 29)) (by omega)) ?_
            refine lv_lmul hx hb d_MO_interest_163 ?_
            refine f_asl (lN_mul ((sumN (duN th du mn) 30) * (rr ((e1 * 40 + r) * 5 + 1))) (d - (30 * mn + 29))) ?_
            refine lv_ldc2 (v := 100) hx hb hown (hT _ w_1001) d_MO_interest_164 ?_
            refine lv_iload hx hb d_MO_interest_167 (lv_at hl 3 rfl) ?_
            refine f_calll hI (f_runS C hI (c_MO_fraction l G h _ (sumN (duN th du mn) 30 * (rr ((e1 * 40 + r) * 5 + 1)) * (d - (30 * mn + 29))) 100 pt (by omega) (by omega) (by decide)) gm_MO_fraction w_1048 w_1047 rfl hl.1 rfl (Nat.le_of_ble_eq_true rfl) ⟨Nat.le_of_ble_eq_true rfl, Nat.le_of_ble_eq_true rfl⟩ d_MO_interest_169 ⟨Nat.le_of_ble_eq_true rfl, Nat.le_of_ble_eq_true rfl⟩) (fun r_121 h8 H9 locs hp9 hX9 hz9 hI => ?_)
            obtain ⟨rfl, e9⟩ := hp9
            rw [e9] at hI
            clear hX9 e9
            exact f_lret C hr hI ⟨by rw [hlh]; rfl, rfl⟩ hX (Nat.le_refl _) (Nat.le_refl _) d_MO_interest_172
          | succ k ih =>
            intro n hn H locs hI ls hl
            have ih : ∀ n : Nat, n + k = 30 → ∀ (H : Heap) (locs : List Loc), fI G.1 g_cl (fA h sz) s.heap h H locs → ∀ ls : Array Slot, lv_has ls 10 [(0, .ref x), (1, .int (nI mn)), (2, .long (lN d)), (4, .int pt), (5, .int (nI e1)), (6, .int (nI r)), (7, .long (lN (sumN (duN th du mn) n))), (9, .int (nI n))] → W p l e { frames := 2, cells := 0, slots := 0, locals := 55 } s m ([.ref x, .int (nI mn), .long (lN d), .int pt] : List Value).toArray below meth c H locs 0 0 (MQ below (cQl G h sz (fun r h' => r = frA (sumN (duN th du mn) 30 * lateH ne ef rr rm (30 * mn + 29) * (d - (30 * mn + 29))) 100 pt ∧ h' = h)) ([.ref x, .int (nI mn), .long (lN d), .int pt] : List Value).toArray s 0 0 (fA h sz)) (F0 m 94 ls []) := ih
            have hn2 : n < 30 := by omega
            refine lv_iload hx hb d_MO_interest_94 (lv_at hl 7 rfl) ?_
            refine lv_bipush (v := 30) hx hb d_MO_interest_96 (by decide) ?_
            refine lv_icmp_ge (tgt := 144) hx hb d_MO_interest_98 (by decide) (fun c_318 => absurd c_318 (fun q => absurd ((n_le (a := 30) (b := n) (by omega) (by omega)).mp q) (by omega))) (fun c_318 => ?_)
            refine lv_lload hx hb d_MO_interest_101 (lv_at hl 6 rfl) ?_
            refine lv_aload_n hx hb d_MO_interest_103 rfl (lv_at hl 0 rfl) ?_
            refine f_get (C := "DutyRulesModel") (T := T_MO) (N := 40) hx hb (fun w q => hT w (s_MO w q)) hown hK hI g_x rfl 27 (by decide) (hT _ w_836) (fun _ q => q) (mo_get (by decide) v_27) d_MO_interest_104 ?_
            refine lv_iload_n hx hb d_MO_interest_107 rfl (lv_at hl 1 rfl) ?_
            refine lv_bipush (v := 30) hx hb d_MO_interest_108 (by decide) ?_
            refine lv_imul hx hb d_MO_interest_110 ?_
            refine f_asi (pk_mul mn 30) ?_
            refine lv_iload hx hb d_MO_interest_111 (lv_at hl 7 rfl) ?_
            refine lv_iadd hx hb d_MO_interest_113 ?_
            refine f_asi (nI_add (mn * 30) n) ?_
            refine f_ialdn (k := ((mn * 30) + n)) (v := (nI (th ((mn * 30) + n)))) hx hb hI g_a27 (fT.ofK hK (t0 := 0) rfl) (by omega) (by omega) rfl d_MO_interest_114 ?_
            refine lv_iconst (v := 1) hx hb d_MO_interest_115 (by decide) ?_
            refine lv_icmp_ne (tgt := 134) hx hb d_MO_interest_116 (by decide) (fun c_319 => ?_) (fun c_319 => ?_)
            · have c_319 : ¬ (th ((mn * 30) + n)) = 1 := fun q => c_319 ((n_eq (a := (th ((mn * 30) + n))) (b := 1) (by have := bth ((mn * 30) + n); omega) (by omega)).mpr q)
              refine lv_lconst (v := 0) hx hb d_MO_interest_134 (by decide) ?_
              refine lv_ladd hx hb d_MO_interest_135 ?_
              refine f_asl (lN_add (sumN (duN th du mn) n) 0) ?_
              refine lv_lstore (lv' := [(7, .long (lN ((sumN (duN th du mn) n) + 0))), (0, .ref x), (1, .int (nI mn)), (2, .long (lN d)), (4, .int pt), (5, .int (nI e1)), (6, .int (nI r)), (9, .int (nI n))]) hx hb d_MO_interest_136 hl (by decide) rfl (fun ls hl => ?_)
              refine lv_iinc (v := nI (n + 1)) (lv' := [(9, .int (nI (n + 1))), (7, .long (lN ((sumN (duN th du mn) n) + 0))), (0, .ref x), (1, .int (nI mn)), (2, .long (lN d)), (4, .int pt), (5, .int (nI e1)), (6, .int (nI r))]) hx hb d_MO_interest_138 hl (k := 7) rfl (f_inc1 _) (by decide) rfl (fun ls hl => ?_)
              refine lv_goto (tgt := 94) hx hb d_MO_interest_141 (by decide) ?_
              refine ih (n + 1) (by omega) _ _ hI ls ?_
              rw [sumN_add (f := duN th du mn) (n := n) (v := 0) (if_neg c_319)]
              exact lv_sub hl [2, 3, 4, 5, 6, 7, 1, 0] rfl
            · have c_319 : (th ((mn * 30) + n)) = 1 := (n_eq (a := (th ((mn * 30) + n))) (b := 1) (by have := bth ((mn * 30) + n); omega) (by omega)).mp c_319
              refine lv_aload_n hx hb d_MO_interest_119 rfl (lv_at hl 0 rfl) ?_
              refine f_get (C := "DutyRulesModel") (T := T_MO) (N := 40) hx hb (fun w q => hT w (s_MO w q)) hown hK hI g_x rfl 28 (by decide) (hT _ w_837) (fun _ q => q) (mo_get (by decide) v_28) d_MO_interest_120 ?_
              refine lv_iload_n hx hb d_MO_interest_123 rfl (lv_at hl 1 rfl) ?_
              refine lv_bipush (v := 30) hx hb d_MO_interest_124 (by decide) ?_
              refine lv_imul hx hb d_MO_interest_126 ?_
              refine f_asi (pk_mul mn 30) ?_
              refine lv_iload hx hb d_MO_interest_127 (lv_at hl 7 rfl) ?_
              refine lv_iadd hx hb d_MO_interest_129 ?_
              refine f_asi (nI_add (mn * 30) n) ?_
              refine f_laldn (k := ((mn * 30) + n)) (v := (lN (du ((mn * 30) + n)))) hx hb hI g_a28 (fT.ofK hK (t0 := 1) rfl) (by omega) (by omega) rfl d_MO_interest_130 ?_
              refine lv_goto (tgt := 135) hx hb d_MO_interest_131 (by decide) ?_
              refine lv_ladd hx hb d_MO_interest_135 ?_
              refine f_asl (lN_add (sumN (duN th du mn) n) (du ((mn * 30) + n))) ?_
              refine lv_lstore (lv' := [(7, .long (lN ((sumN (duN th du mn) n) + (du ((mn * 30) + n))))), (0, .ref x), (1, .int (nI mn)), (2, .long (lN d)), (4, .int pt), (5, .int (nI e1)), (6, .int (nI r)), (9, .int (nI n))]) hx hb d_MO_interest_136 hl (by decide) rfl (fun ls hl => ?_)
              refine lv_iinc (v := nI (n + 1)) (lv' := [(9, .int (nI (n + 1))), (7, .long (lN ((sumN (duN th du mn) n) + (du ((mn * 30) + n))))), (0, .ref x), (1, .int (nI mn)), (2, .long (lN d)), (4, .int pt), (5, .int (nI e1)), (6, .int (nI r))]) hx hb d_MO_interest_138 hl (k := 7) rfl (f_inc1 _) (by decide) rfl (fun ls hl => ?_)
              refine lv_goto (tgt := 94) hx hb d_MO_interest_141 (by decide) ?_
              refine ih (n + 1) (by omega) _ _ hI ls ?_
              rw [sumN_add (f := duN th du mn) (n := n) (if_pos c_319)]
              exact lv_sub hl [2, 3, 4, 5, 6, 7, 1, 0] rfl
        exact LOOP 30 0 (by omega) _ _ hI ls (lv_sub hl [4, 5, 6, 7, 3, 2, 1, 0] rfl)
      · have c_17 : ¬ (30 * mn + 29) < d := fun q => c_17 ((pk_lLT (a := (30 * mn + 29)) (b := d) (by omega) (by omega)).mpr q)
        refine lv_iload hx hb d_MO_interest_84 (lv_at hl 5 rfl) ?_
        refine lv_i2l hx hb d_MO_interest_86 rfl ?_
        exact f_lret C hr hI ⟨by rw [show sumN (duN th du mn) 30 * lateH ne ef rr rm (30 * mn + 29) * (d - (30 * mn + 29)) = 0 by rw [Nat.sub_eq_zero_of_le (by omega), Nat.mul_zero]]; exact pt_fr hpt, rfl⟩ hX (Nat.le_refl _) (Nat.le_refl _) d_MO_interest_87
