theorem gm_MO_duty : gM y_MO_duty b_MO_duty 9 (some .long) 4 := ⟨w_1016, w_10, ⟨by decide, by decide⟩, by decide +kernel⟩
set_option maxHeartbeats 4000000 in
set_option maxRecDepth 100000 in
/-- MO_duty  -/
theorem c_MO_duty_no (l : Launch) (G : gG) (h : fH) (sz : Nat) (x : Nat) (lot : Int32) (dy on : Int64) (pt : Int32) (hbad : (lot < 0 ∨ 30 ≤ lot) ∨ (dy < 0 ∨ 100000 < dy) ∨ (on < 0 ∨ 100000 < on) ∨ pt < 0 ∨ ¬ pt ≤ 1) : cM l y_MO_duty b_MO_duty 9 (some .long) { frames := 2, cells := 0, slots := 0, locals := 73 } G [.ref x, .int lot, .long dy, .long on, .int pt] h sz (cQl G h sz (fun r h' => r = (-9223372036854775808) ∧ h' = h)) := by
  refine f_start (by decide) (Nat.le_of_ble_eq_true rfl) ?_
  intro p e s m below meth c ls C hr hsz hI hl
  obtain ⟨hx, hb, hml, hown, hnm, hlk, hT, hG, hZ⟩ := id C
  have hK := hG.1
  have hX : fX h sz h := fX.rf
  have hl : lv_has ls 9 [(0, .ref x), (1, .int lot), (2, .long dy), (4, .long on), (6, .int pt)] := hl
  refine lv_iload_n hx hb d_MO_duty_0 rfl (lv_at hl 1 rfl) ?_
  refine f_calli hI (f_runS C hI (c_MO_isLot l G h _ lot) gm_MO_isLot w_996 w_995 rfl hl.1 rfl (Nat.le_of_ble_eq_true rfl) ⟨Nat.le_of_ble_eq_true rfl, Nat.le_of_ble_eq_true rfl⟩ d_MO_duty_1 ⟨Nat.le_of_ble_eq_true rfl, Nat.le_of_ble_eq_true rfl⟩) (fun r_1 h8 H9 locs hp9 hX9 hz9 hI => ?_)
  obtain ⟨rfl, e9⟩ := hp9
  rw [e9] at hI
  clear hX9 e9
  refine lv_if_eq (tgt := 33) hx hb d_MO_duty_4 (by decide) (fun c_2 => ?_) (fun c_2 => ?_)
  · skip
    refine lv_ldc2 (v := (-9223372036854775808)) hx hb hown (hT _ w_1017) d_MO_duty_33 ?_
    exact f_lret C hr hI ⟨rfl, rfl⟩ hX (Nat.le_refl _) (Nat.le_refl _) d_MO_duty_36
  · skip
    refine lv_lload_n hx hb d_MO_duty_7 rfl (lv_at hl 2 rfl) ?_
    refine f_calli hI (f_runS C hI (c_MO_isDay l G h _ dy) gm_MO_isDay w_999 w_998 rfl hl.1 rfl (Nat.le_of_ble_eq_true rfl) ⟨Nat.le_of_ble_eq_true rfl, Nat.le_of_ble_eq_true rfl⟩ d_MO_duty_8 ⟨Nat.le_of_ble_eq_true rfl, Nat.le_of_ble_eq_true rfl⟩) (fun r_3 h8 H9 locs hp9 hX9 hz9 hI => ?_)
    obtain ⟨rfl, e9⟩ := hp9
    rw [e9] at hI
    clear hX9 e9
    refine lv_if_eq (tgt := 33) hx hb d_MO_duty_11 (by decide) (fun c_4 => ?_) (fun c_4 => ?_)
    · skip
      refine lv_ldc2 (v := (-9223372036854775808)) hx hb hown (hT _ w_1017) d_MO_duty_33 ?_
      exact f_lret C hr hI ⟨rfl, rfl⟩ hX (Nat.le_refl _) (Nat.le_refl _) d_MO_duty_36
    · skip
      refine lv_lload hx hb d_MO_duty_14 (lv_at hl 3 rfl) ?_
      refine f_calli hI (f_runS C hI (c_MO_isDay l G h _ on) gm_MO_isDay w_999 w_998 rfl hl.1 rfl (Nat.le_of_ble_eq_true rfl) ⟨Nat.le_of_ble_eq_true rfl, Nat.le_of_ble_eq_true rfl⟩ d_MO_duty_16 ⟨Nat.le_of_ble_eq_true rfl, Nat.le_of_ble_eq_true rfl⟩) (fun r_5 h8 H9 locs hp9 hX9 hz9 hI => ?_)
      obtain ⟨rfl, e9⟩ := hp9
      rw [e9] at hI
      clear hX9 e9
      refine lv_if_eq (tgt := 33) hx hb d_MO_duty_19 (by decide) (fun c_6 => ?_) (fun c_6 => ?_)
      · skip
        refine lv_ldc2 (v := (-9223372036854775808)) hx hb hown (hT _ w_1017) d_MO_duty_33 ?_
        exact f_lret C hr hI ⟨rfl, rfl⟩ hX (Nat.le_refl _) (Nat.le_refl _) d_MO_duty_36
      · skip
        refine lv_iload hx hb d_MO_duty_22 (lv_at hl 4 rfl) ?_
        refine lv_if_lt (tgt := 33) hx hb d_MO_duty_24 (by decide) (fun c_7 => ?_) (fun c_7 => ?_)
        · skip
          refine lv_ldc2 (v := (-9223372036854775808)) hx hb hown (hT _ w_1017) d_MO_duty_33 ?_
          exact f_lret C hr hI ⟨rfl, rfl⟩ hX (Nat.le_refl _) (Nat.le_refl _) d_MO_duty_36
        · skip
          refine lv_iload hx hb d_MO_duty_27 (lv_at hl 4 rfl) ?_
          refine lv_iconst (v := 1) hx hb d_MO_duty_29 (by decide) ?_
          refine lv_icmp_le (tgt := 37) hx hb d_MO_duty_30 (by decide) (fun c_8 => ?_) (fun c_8 => ?_)
          · skip
            exfalso
            rcases hbad with q | q | q | q | q
            · exact rng_no c_2 q
            · exact day_no c_4 q
            · exact day_no c_6 q
            · exact c_7 q
            · exact q c_8
          · skip
            refine lv_ldc2 (v := (-9223372036854775808)) hx hb hown (hT _ w_1017) d_MO_duty_33 ?_
            exact f_lret C hr hI ⟨rfl, rfl⟩ hX (Nat.le_refl _) (Nat.le_refl _) d_MO_duty_36
set_option maxHeartbeats 4000000 in
set_option maxRecDepth 100000 in
/-- MO_duty  -/
theorem c_MO_duty_ok (l : Launch) (G : gG) (h : fH) (sz : Nat) (x lot day on : Nat) (pt : Int32) (mf : Nat → Value) (g_x : h x = some (40, 0, .inr (8, mo mf))) (nf : Nat) (fl fk fd fw fv : Nat → Nat) (hFc : mFc G h mf nf fl fk fd fw fv) (ne : Nat) (ef rr rm : Nat → Nat) (hEd : mEd G h mf ne ef rr rm) (hS0 : mS0 G h mf) (sL sR : Int32) (L : List (Nat × Nat × Nat)) (hSh : mSh G h mf sL sR L) (blot : lot < 30) (bday : day ≤ 100000) (bon : on ≤ 100000) (hp1 : ¬ pt < 0) (hp2 : pt ≤ 1) : cM l y_MO_duty b_MO_duty 9 (some .long) { frames := 2, cells := 0, slots := 0, locals := 73 } G [.ref x, .int (nI lot), .long (lN day), .long (lN on), .int pt] h sz (cQl G h sz (fun r h' => r = (if (rk (mK nf fl fk fd fw fv lot day on) (mE ne ef rr rm day)).1 = -1 then frA (rk (mK nf fl fk fd fw fv lot day on) (mE ne ef rr rm day)).2.2.2 CT pt else (-9223372036854775808)) ∧ ∃ mf', h' x = some (40, 0, .inr (8, mo mf')) ∧ (∀ j, j < 14 ∨ 26 < j → mf' j = mf j) ∧ mS0 G h' mf' ∧ mSh G h' mf' (nI lot) (rk (mK nf fl fk fd fw fv lot day on) (mE ne ef rr rm day)).1 (rk (mK nf fl fk fd fw fv lot day on) (mE ne ef rr rm day)).2.1 ∧ fF (inR [40, 56, 57, 58, 65, 66, 67]) h h')) := by
  refine f_start (by decide) (Nat.le_of_ble_eq_true rfl) ?_
  intro p e s m below meth c ls C hr hsz hI hl
  obtain ⟨hx, hb, hml, hown, hnm, hlk, hT, hG, hZ⟩ := id C
  have hK := hG.1
  have hX : fX h sz h := fX.rf
  have hl : lv_has ls 9 [(0, .ref x), (1, .int (nI lot)), (2, .long (lN day)), (4, .long (lN on)), (6, .int pt)] := hl
  obtain ⟨_, _, _, _, _, bne, brm, bef, brr, brk⟩ := id hEd
  obtain ⟨_, _, _, _, _, _, _, bnf, bfl, bfk, bfd, bfw, bfv0⟩ := id hFc
  have hz0 := hI.2.2.2.1
  obtain ⟨_, _, _, _, _, _, _, hSt⟩ := id hS0
  have hm1 : ∀ j, j < 14 ∨ 26 < j → mf j = mf j := fun _ _ => rfl
  have hF : fF (inR [40, 56, 57, 58, 65, 66, 67]) h h := fF.rf
  refine lv_iload_n hx hb d_MO_duty_0 rfl (lv_at hl 1 rfl) ?_
  refine f_calli hI (f_runS C hI (c_MO_isLot l G h _ (nI lot)) gm_MO_isLot w_996 w_995 rfl hl.1 rfl (Nat.le_of_ble_eq_true rfl) ⟨Nat.le_of_ble_eq_true rfl, Nat.le_of_ble_eq_true rfl⟩ d_MO_duty_1 ⟨Nat.le_of_ble_eq_true rfl, Nat.le_of_ble_eq_true rfl⟩) (fun r_1 h8 H9 locs hp9 hX9 hz9 hI => ?_)
  obtain ⟨rfl, e9⟩ := hp9
  rw [e9] at hI
  clear hX9 e9
  rw [rng_ok (a := nI lot) (N := 30) (nI_pos (by omega)) (fun q => absurd ((n_le (a := 30) (b := lot) (by omega) (by omega)).mp q) (by omega))]
  refine lv_if_eq (tgt := 33) hx hb d_MO_duty_4 (by decide) (fun c_2 => absurd c_2 (by decide)) (fun c_2 => ?_)
  refine lv_lload_n hx hb d_MO_duty_7 rfl (lv_at hl 2 rfl) ?_
  refine f_calli hI (f_runS C hI (c_MO_isDay l G h _ (lN day)) gm_MO_isDay w_999 w_998 rfl hl.1 rfl (Nat.le_of_ble_eq_true rfl) ⟨Nat.le_of_ble_eq_true rfl, Nat.le_of_ble_eq_true rfl⟩ d_MO_duty_8 ⟨Nat.le_of_ble_eq_true rfl, Nat.le_of_ble_eq_true rfl⟩) (fun r_3 h8 H9 locs hp9 hX9 hz9 hI => ?_)
  obtain ⟨rfl, e9⟩ := hp9
  rw [e9] at hI
  clear hX9 e9
  refine f_asi (day_ok (d := day) (n := 100000) bday (by decide)) ?_
  refine lv_if_eq (tgt := 33) hx hb d_MO_duty_11 (by decide) (fun c_4 => absurd c_4 (by decide)) (fun c_4 => ?_)
  refine lv_lload hx hb d_MO_duty_14 (lv_at hl 3 rfl) ?_
  refine f_calli hI (f_runS C hI (c_MO_isDay l G h _ (lN on)) gm_MO_isDay w_999 w_998 rfl hl.1 rfl (Nat.le_of_ble_eq_true rfl) ⟨Nat.le_of_ble_eq_true rfl, Nat.le_of_ble_eq_true rfl⟩ d_MO_duty_16 ⟨Nat.le_of_ble_eq_true rfl, Nat.le_of_ble_eq_true rfl⟩) (fun r_5 h8 H9 locs hp9 hX9 hz9 hI => ?_)
  obtain ⟨rfl, e9⟩ := hp9
  rw [e9] at hI
  clear hX9 e9
  refine f_asi (day_ok (d := on) (n := 100000) bon (by decide)) ?_
  refine lv_if_eq (tgt := 33) hx hb d_MO_duty_19 (by decide) (fun c_6 => absurd c_6 (by decide)) (fun c_6 => ?_)
  refine lv_iload hx hb d_MO_duty_22 (lv_at hl 4 rfl) ?_
  refine lv_if_lt (tgt := 33) hx hb d_MO_duty_24 (by decide) (fun c_7 => absurd c_7 hp1) (fun c_7 => ?_)
  refine lv_iload hx hb d_MO_duty_27 (lv_at hl 4 rfl) ?_
  refine lv_iconst (v := 1) hx hb d_MO_duty_29 (by decide) ?_
  refine lv_icmp_le (tgt := 37) hx hb d_MO_duty_30 (by decide) (fun c_8 => ?_) (fun c_8 => absurd hp2 c_8)
  refine lv_aload_n hx hb d_MO_duty_37 rfl (lv_at hl 0 rfl) ?_
  refine lv_iload_n hx hb d_MO_duty_38 rfl (lv_at hl 1 rfl) ?_
  refine lv_lload_n hx hb d_MO_duty_39 rfl (lv_at hl 2 rfl) ?_
  refine lv_lload hx hb d_MO_duty_40 (lv_at hl 3 rfl) ?_
  have hz8 := hI.2.2.2.1
  refine f_calli hI (f_runV C hI (c_MO_reckon l G h _ x lot day on mf g_x nf fl fk fd fw fv hFc ne ef rr rm hEd _ _ _ _ _ _ _ hSt blot bday bon) gm_MO_reckon w_1020 p_MO_reckon w_1018 g_x rfl rfl rfl hl.1 rfl (Nat.le_of_ble_eq_true rfl) ⟨Nat.le_of_ble_eq_true rfl, Nat.le_of_ble_eq_true rfl⟩ d_MO_duty_42 ⟨Nat.le_of_ble_eq_true rfl, Nat.le_of_ble_eq_true rfl⟩) (fun r_9 h9 H9 locs hp9 hX9 hz9 hI => ?_)
  obtain ⟨rfl, mf_10, g_x, hm9, hSd, hF9⟩ := hp9
  have hSh := hSh.keep (fun j h1 h2 => hm9 j (Or.inr (Nat.lt_of_lt_of_le (by decide) h1))) hF9 (by decide)
  have hm1 : ∀ j, j < 14 ∨ 26 < j → mf_10 j = mf j := fun j hj => (hm9 j (hj.imp id (fun q => Nat.lt_trans (by decide) q))).trans (hm1 j hj)
  have hF := hF.tr (hF9.mono (fun r o q => List.mem_append_left [65, 66, 67] q))
  have hX := fX.tr (by omega) hX hX9
  have hbd : (rk (mK nf fl fk fd fw fv lot day on) (mE ne ef rr rm day)).2.2.2 ≤ 2100000000000000000 ∧ (rk (mK nf fl fk fd fw fv lot day on) (mE ne ef rr rm day)).2.2.1 ≤ 100000000 ∧ (rk (mK nf fl fk fd fw fv lot day on) (mE ne ef rr rm day)).2.1.length ≤ 5 := rk_bd (mK_ok bnf bfv0) (mE_ok bne brk)
  by_cases hk1 : (rk (mK nf fl fk fd fw fv lot day on) (mE ne ef rr rm day)).1 = -1
  · refine f_asi (if_pos hk1) ?_
    have hS0 := hSd.s0
    obtain ⟨a24, a25, a26, tl, tr, tc, ⟨v_21, v_22, v_23, v_24, v_25, v_26⟩, ⟨g_a24, g_a25, g_a26⟩, bL, hq2⟩ := hSh
    obtain ⟨sl, sr, sc, hSt, hq⟩ := hSd
    obtain ⟨a15, a16, a17, ⟨v_14, v_15, v_16, v_17, v_18, v_19, v_20⟩, ⟨g_a15, g_a16, g_a17⟩⟩ := id hSt
    refine lv_istore (lv' := [(7, .int 1), (0, .ref x), (1, .int (nI lot)), (2, .long (lN day)), (4, .long (lN on)), (6, .int pt)]) hx hb d_MO_duty_45 hl (by decide) rfl (fun ls hl => ?_)
    refine lv_aload_n hx hb d_MO_duty_47 rfl (lv_at hl 1 rfl) ?_
    refine lv_iload_n hx hb d_MO_duty_48 rfl (lv_at hl 2 rfl) ?_
    refine f_put (C := "DutyRulesModel") (T := T_MO) (N := 40) (fs' := mo (va_up mf_10 21 (.int (nI lot)))) (v := .int (nI lot)) hx hb (fun w q => hT w (s_MO w q)) t_MO k_MO n_MO hown hK hI g_x (by decide) rfl 21 (by decide) (hT _ w_830) (fun _ q => q) rfl rfl rfl (by rw [mo_len]; decide) (mo_set _) d_MO_duty_49 (fun H locs hI => ?_)
    generalize emf_11 : va_up mf_10 21 (.int (nI lot)) = mf_11 at hI
    have v_14 : mf_11 14 = .int (rk (mK nf fl fk fd fw fv lot day on) (mE ne ef rr rm day)).1 := (congrFun emf_11 14).symm.trans ((va_up_ne _ _ (by decide)).trans v_14)
    have v_15 : mf_11 15 = .ref a15 := (congrFun emf_11 15).symm.trans ((va_up_ne _ _ (by decide)).trans v_15)
    have v_16 : mf_11 16 = .ref a16 := (congrFun emf_11 16).symm.trans ((va_up_ne _ _ (by decide)).trans v_16)
    have v_17 : mf_11 17 = .ref a17 := (congrFun emf_11 17).symm.trans ((va_up_ne _ _ (by decide)).trans v_17)
    have v_18 : mf_11 18 = .int (nI (rk (mK nf fl fk fd fw fv lot day on) (mE ne ef rr rm day)).2.1.length) := (congrFun emf_11 18).symm.trans ((va_up_ne _ _ (by decide)).trans v_18)
    have v_19 : mf_11 19 = .long (lN (rk (mK nf fl fk fd fw fv lot day on) (mE ne ef rr rm day)).2.2.1) := (congrFun emf_11 19).symm.trans ((va_up_ne _ _ (by decide)).trans v_19)
    have v_20 : mf_11 20 = .long (lN (rk (mK nf fl fk fd fw fv lot day on) (mE ne ef rr rm day)).2.2.2) := (congrFun emf_11 20).symm.trans ((va_up_ne _ _ (by decide)).trans v_20)
    have v_22 : mf_11 22 = .int sR := (congrFun emf_11 22).symm.trans ((va_up_ne _ _ (by decide)).trans v_22)
    have v_23 : mf_11 23 = .int (nI L.length) := (congrFun emf_11 23).symm.trans ((va_up_ne _ _ (by decide)).trans v_23)
    have v_24 : mf_11 24 = .ref a24 := (congrFun emf_11 24).symm.trans ((va_up_ne _ _ (by decide)).trans v_24)
    have v_25 : mf_11 25 = .ref a25 := (congrFun emf_11 25).symm.trans ((va_up_ne _ _ (by decide)).trans v_25)
    have v_26 : mf_11 26 = .ref a26 := (congrFun emf_11 26).symm.trans ((va_up_ne _ _ (by decide)).trans v_26)
    have v_21 : mf_11 21 = .int (nI lot) := (congrFun emf_11 21).symm.trans (va_up_self _ _ _)
    generalize eh_12 : fU h9 x (40, 0, .inr (8, mo mf_11)) = h_12 at hI
    have hX := hX.set (e := .inr (8, mo mf_11)) g_x (by decide); rw [eh_12] at hX
    have hF := hF.set (e := .inr (8, mo mf_11)) g_x (by decide); rw [eh_12] at hF
    have g_a15 : h_12 a15 = some (56, 0, .inl ((G.2.1 0), 5, .inl (fun i => nI (sl i)))) := (congrFun eh_12 a15).symm.trans (fU_keep g_a15 (f_neR g_a15 g_x (by decide)))
    have g_a16 : h_12 a16 = some (57, 0, .inl ((G.2.1 0), 5, .inl (fun i => nI (sr i)))) := (congrFun eh_12 a16).symm.trans (fU_keep g_a16 (f_neR g_a16 g_x (by decide)))
    have g_a17 : h_12 a17 = some (58, 0, .inl ((G.2.1 1), 5, .inr (.inl (fun i => lN (sc i))))) := (congrFun eh_12 a17).symm.trans (fU_keep g_a17 (f_neR g_a17 g_x (by decide)))
    have g_a24 : h_12 a24 = some (65, 0, .inl ((G.2.1 0), 5, .inl (fun i => nI (tl i)))) := (congrFun eh_12 a24).symm.trans (fU_keep g_a24 (f_neR g_a24 g_x (by decide)))
    have g_a25 : h_12 a25 = some (66, 0, .inl ((G.2.1 0), 5, .inl (fun i => nI (tr i)))) := (congrFun eh_12 a25).symm.trans (fU_keep g_a25 (f_neR g_a25 g_x (by decide)))
    have g_a26 : h_12 a26 = some (67, 0, .inl ((G.2.1 1), 5, .inr (.inl (fun i => lN (tc i))))) := (congrFun eh_12 a26).symm.trans (fU_keep g_a26 (f_neR g_a26 g_x (by decide)))
    have hW9 : fF (inR [40]) h9 h_12 := by rw [← eh_12]; exact fF.rf.set g_x (by decide)
    have g_x : h_12 x = some (40, 0, .inr (8, mo mf_11)) := (congrFun eh_12 x).symm.trans (fU_self _ _ _)
    have hS0 := mS0.keep (mf' := mf_11) hS0 (fun j h1 h2 => (congrFun emf_11 j).symm.trans (va_up_ne _ _ (ne_out h1 h2 (by decide)))) hW9 (by decide)
    have hm1 : ∀ j, j < 14 ∨ 26 < j → mf_11 j = mf j := fun j hj => (congrFun emf_11 j).symm.trans ((va_up_ne _ _ (ne_rng hj (by decide))).trans (hm1 j hj))
    refine lv_aload_n hx hb d_MO_duty_52 rfl (lv_at hl 1 rfl) ?_
    refine lv_aload_n hx hb d_MO_duty_53 rfl (lv_at hl 1 rfl) ?_
    refine f_get (C := "DutyRulesModel") (T := T_MO) (N := 40) hx hb (fun w q => hT w (s_MO w q)) hown hK hI g_x rfl 14 (by decide) (hT _ w_823) (fun _ q => q) (mo_get (by decide) v_14) d_MO_duty_54 ?_
    refine f_put (C := "DutyRulesModel") (T := T_MO) (N := 40) (fs' := mo (va_up mf_11 22 (.int (rk (mK nf fl fk fd fw fv lot day on) (mE ne ef rr rm day)).1))) (v := .int (rk (mK nf fl fk fd fw fv lot day on) (mE ne ef rr rm day)).1) hx hb (fun w q => hT w (s_MO w q)) t_MO k_MO n_MO hown hK hI g_x (by decide) rfl 22 (by decide) (hT _ w_831) (fun _ q => q) rfl rfl rfl (by rw [mo_len]; decide) (mo_set _) d_MO_duty_57 (fun H locs hI => ?_)
    generalize emf_13 : va_up mf_11 22 (.int (rk (mK nf fl fk fd fw fv lot day on) (mE ne ef rr rm day)).1) = mf_13 at hI
    have v_14 : mf_13 14 = .int (rk (mK nf fl fk fd fw fv lot day on) (mE ne ef rr rm day)).1 := (congrFun emf_13 14).symm.trans ((va_up_ne _ _ (by decide)).trans v_14)
    have v_15 : mf_13 15 = .ref a15 := (congrFun emf_13 15).symm.trans ((va_up_ne _ _ (by decide)).trans v_15)
    have v_16 : mf_13 16 = .ref a16 := (congrFun emf_13 16).symm.trans ((va_up_ne _ _ (by decide)).trans v_16)
    have v_17 : mf_13 17 = .ref a17 := (congrFun emf_13 17).symm.trans ((va_up_ne _ _ (by decide)).trans v_17)
    have v_18 : mf_13 18 = .int (nI (rk (mK nf fl fk fd fw fv lot day on) (mE ne ef rr rm day)).2.1.length) := (congrFun emf_13 18).symm.trans ((va_up_ne _ _ (by decide)).trans v_18)
    have v_19 : mf_13 19 = .long (lN (rk (mK nf fl fk fd fw fv lot day on) (mE ne ef rr rm day)).2.2.1) := (congrFun emf_13 19).symm.trans ((va_up_ne _ _ (by decide)).trans v_19)
    have v_20 : mf_13 20 = .long (lN (rk (mK nf fl fk fd fw fv lot day on) (mE ne ef rr rm day)).2.2.2) := (congrFun emf_13 20).symm.trans ((va_up_ne _ _ (by decide)).trans v_20)
    have v_21 : mf_13 21 = .int (nI lot) := (congrFun emf_13 21).symm.trans ((va_up_ne _ _ (by decide)).trans v_21)
    have v_23 : mf_13 23 = .int (nI L.length) := (congrFun emf_13 23).symm.trans ((va_up_ne _ _ (by decide)).trans v_23)
    have v_24 : mf_13 24 = .ref a24 := (congrFun emf_13 24).symm.trans ((va_up_ne _ _ (by decide)).trans v_24)
    have v_25 : mf_13 25 = .ref a25 := (congrFun emf_13 25).symm.trans ((va_up_ne _ _ (by decide)).trans v_25)
    have v_26 : mf_13 26 = .ref a26 := (congrFun emf_13 26).symm.trans ((va_up_ne _ _ (by decide)).trans v_26)
    have v_22 : mf_13 22 = .int (rk (mK nf fl fk fd fw fv lot day on) (mE ne ef rr rm day)).1 := (congrFun emf_13 22).symm.trans (va_up_self _ _ _)
    generalize eh_14 : fU h_12 x (40, 0, .inr (8, mo mf_13)) = h_14 at hI
    have hX := hX.set (e := .inr (8, mo mf_13)) g_x (by decide); rw [eh_14] at hX
    have hF := hF.set (e := .inr (8, mo mf_13)) g_x (by decide); rw [eh_14] at hF
    have g_a15 : h_14 a15 = some (56, 0, .inl ((G.2.1 0), 5, .inl (fun i => nI (sl i)))) := (congrFun eh_14 a15).symm.trans (fU_keep g_a15 (f_neR g_a15 g_x (by decide)))
    have g_a16 : h_14 a16 = some (57, 0, .inl ((G.2.1 0), 5, .inl (fun i => nI (sr i)))) := (congrFun eh_14 a16).symm.trans (fU_keep g_a16 (f_neR g_a16 g_x (by decide)))
    have g_a17 : h_14 a17 = some (58, 0, .inl ((G.2.1 1), 5, .inr (.inl (fun i => lN (sc i))))) := (congrFun eh_14 a17).symm.trans (fU_keep g_a17 (f_neR g_a17 g_x (by decide)))
    have g_a24 : h_14 a24 = some (65, 0, .inl ((G.2.1 0), 5, .inl (fun i => nI (tl i)))) := (congrFun eh_14 a24).symm.trans (fU_keep g_a24 (f_neR g_a24 g_x (by decide)))
    have g_a25 : h_14 a25 = some (66, 0, .inl ((G.2.1 0), 5, .inl (fun i => nI (tr i)))) := (congrFun eh_14 a25).symm.trans (fU_keep g_a25 (f_neR g_a25 g_x (by decide)))
    have g_a26 : h_14 a26 = some (67, 0, .inl ((G.2.1 1), 5, .inr (.inl (fun i => lN (tc i))))) := (congrFun eh_14 a26).symm.trans (fU_keep g_a26 (f_neR g_a26 g_x (by decide)))
    have hW9 : fF (inR [40]) h_12 h_14 := by rw [← eh_14]; exact fF.rf.set g_x (by decide)
    have g_x : h_14 x = some (40, 0, .inr (8, mo mf_13)) := (congrFun eh_14 x).symm.trans (fU_self _ _ _)
    have hS0 := mS0.keep (mf' := mf_13) hS0 (fun j h1 h2 => (congrFun emf_13 j).symm.trans (va_up_ne _ _ (ne_out h1 h2 (by decide)))) hW9 (by decide)
    have hm1 : ∀ j, j < 14 ∨ 26 < j → mf_13 j = mf j := fun j hj => (congrFun emf_13 j).symm.trans ((va_up_ne _ _ (ne_rng hj (by decide))).trans (hm1 j hj))
    refine lv_aload_n hx hb d_MO_duty_60 rfl (lv_at hl 1 rfl) ?_
    refine lv_iload hx hb d_MO_duty_61 (lv_at hl 0 rfl) ?_
    refine lv_if_eq (tgt := 73) hx hb d_MO_duty_63 (by decide) (fun c_15 => absurd c_15 (by decide)) (fun c_15 => ?_)
    refine lv_aload_n hx hb d_MO_duty_66 rfl (lv_at hl 1 rfl) ?_
    refine f_get (C := "DutyRulesModel") (T := T_MO) (N := 40) hx hb (fun w q => hT w (s_MO w q)) hown hK hI g_x rfl 18 (by decide) (hT _ w_827) (fun _ q => q) (mo_get (by decide) v_18) d_MO_duty_67 ?_
    refine lv_goto (tgt := 74) hx hb d_MO_duty_70 (by decide) ?_
    refine f_put (C := "DutyRulesModel") (T := T_MO) (N := 40) (fs' := mo (va_up mf_13 23 (.int (nI (rk (mK nf fl fk fd fw fv lot day on) (mE ne ef rr rm day)).2.1.length)))) (v := .int (nI (rk (mK nf fl fk fd fw fv lot day on) (mE ne ef rr rm day)).2.1.length)) hx hb (fun w q => hT w (s_MO w q)) t_MO k_MO n_MO hown hK hI g_x (by decide) rfl 23 (by decide) (hT _ w_832) (fun _ q => q) rfl rfl rfl (by rw [mo_len]; decide) (mo_set _) d_MO_duty_74 (fun H locs hI => ?_)
    generalize emf_16 : va_up mf_13 23 (.int (nI (rk (mK nf fl fk fd fw fv lot day on) (mE ne ef rr rm day)).2.1.length)) = mf_16 at hI
    have v_14 : mf_16 14 = .int (rk (mK nf fl fk fd fw fv lot day on) (mE ne ef rr rm day)).1 := (congrFun emf_16 14).symm.trans ((va_up_ne _ _ (by decide)).trans v_14)
    have v_15 : mf_16 15 = .ref a15 := (congrFun emf_16 15).symm.trans ((va_up_ne _ _ (by decide)).trans v_15)
    have v_16 : mf_16 16 = .ref a16 := (congrFun emf_16 16).symm.trans ((va_up_ne _ _ (by decide)).trans v_16)
    have v_17 : mf_16 17 = .ref a17 := (congrFun emf_16 17).symm.trans ((va_up_ne _ _ (by decide)).trans v_17)
    have v_18 : mf_16 18 = .int (nI (rk (mK nf fl fk fd fw fv lot day on) (mE ne ef rr rm day)).2.1.length) := (congrFun emf_16 18).symm.trans ((va_up_ne _ _ (by decide)).trans v_18)
    have v_19 : mf_16 19 = .long (lN (rk (mK nf fl fk fd fw fv lot day on) (mE ne ef rr rm day)).2.2.1) := (congrFun emf_16 19).symm.trans ((va_up_ne _ _ (by decide)).trans v_19)
    have v_20 : mf_16 20 = .long (lN (rk (mK nf fl fk fd fw fv lot day on) (mE ne ef rr rm day)).2.2.2) := (congrFun emf_16 20).symm.trans ((va_up_ne _ _ (by decide)).trans v_20)
    have v_21 : mf_16 21 = .int (nI lot) := (congrFun emf_16 21).symm.trans ((va_up_ne _ _ (by decide)).trans v_21)
    have v_22 : mf_16 22 = .int (rk (mK nf fl fk fd fw fv lot day on) (mE ne ef rr rm day)).1 := (congrFun emf_16 22).symm.trans ((va_up_ne _ _ (by decide)).trans v_22)
    have v_24 : mf_16 24 = .ref a24 := (congrFun emf_16 24).symm.trans ((va_up_ne _ _ (by decide)).trans v_24)
    have v_25 : mf_16 25 = .ref a25 := (congrFun emf_16 25).symm.trans ((va_up_ne _ _ (by decide)).trans v_25)
    have v_26 : mf_16 26 = .ref a26 := (congrFun emf_16 26).symm.trans ((va_up_ne _ _ (by decide)).trans v_26)
    have v_23 : mf_16 23 = .int (nI (rk (mK nf fl fk fd fw fv lot day on) (mE ne ef rr rm day)).2.1.length) := (congrFun emf_16 23).symm.trans (va_up_self _ _ _)
    generalize eh_17 : fU h_14 x (40, 0, .inr (8, mo mf_16)) = h_17 at hI
    have hX := hX.set (e := .inr (8, mo mf_16)) g_x (by decide); rw [eh_17] at hX
    have hF := hF.set (e := .inr (8, mo mf_16)) g_x (by decide); rw [eh_17] at hF
    have g_a15 : h_17 a15 = some (56, 0, .inl ((G.2.1 0), 5, .inl (fun i => nI (sl i)))) := (congrFun eh_17 a15).symm.trans (fU_keep g_a15 (f_neR g_a15 g_x (by decide)))
    have g_a16 : h_17 a16 = some (57, 0, .inl ((G.2.1 0), 5, .inl (fun i => nI (sr i)))) := (congrFun eh_17 a16).symm.trans (fU_keep g_a16 (f_neR g_a16 g_x (by decide)))
    have g_a17 : h_17 a17 = some (58, 0, .inl ((G.2.1 1), 5, .inr (.inl (fun i => lN (sc i))))) := (congrFun eh_17 a17).symm.trans (fU_keep g_a17 (f_neR g_a17 g_x (by decide)))
    have g_a24 : h_17 a24 = some (65, 0, .inl ((G.2.1 0), 5, .inl (fun i => nI (tl i)))) := (congrFun eh_17 a24).symm.trans (fU_keep g_a24 (f_neR g_a24 g_x (by decide)))
    have g_a25 : h_17 a25 = some (66, 0, .inl ((G.2.1 0), 5, .inl (fun i => nI (tr i)))) := (congrFun eh_17 a25).symm.trans (fU_keep g_a25 (f_neR g_a25 g_x (by decide)))
    have g_a26 : h_17 a26 = some (67, 0, .inl ((G.2.1 1), 5, .inr (.inl (fun i => lN (tc i))))) := (congrFun eh_17 a26).symm.trans (fU_keep g_a26 (f_neR g_a26 g_x (by decide)))
    have hW9 : fF (inR [40]) h_14 h_17 := by rw [← eh_17]; exact fF.rf.set g_x (by decide)
    have g_x : h_17 x = some (40, 0, .inr (8, mo mf_16)) := (congrFun eh_17 x).symm.trans (fU_self _ _ _)
    have hS0 := mS0.keep (mf' := mf_16) hS0 (fun j h1 h2 => (congrFun emf_16 j).symm.trans (va_up_ne _ _ (ne_out h1 h2 (by decide)))) hW9 (by decide)
    have hm1 : ∀ j, j < 14 ∨ 26 < j → mf_16 j = mf j := fun j hj => (congrFun emf_16 j).symm.trans ((va_up_ne _ _ (ne_rng hj (by decide))).trans (hm1 j hj))
    refine lv_iconst (v := 0) hx hb d_MO_duty_77 (by decide) ?_
    refine lv_istore (lv' := [(8, .int 0), (7, .int 1), (0, .ref x), (1, .int (nI lot)), (2, .long (lN day)), (4, .long (lN on)), (6, .int pt)]) hx hb d_MO_duty_78 hl (by decide) rfl (fun ls hl => ?_)
    have LOOP : ∀ (k n : Nat), n + k = (rk (mK nf fl fk fd fw fv lot day on) (mE ne ef rr rm day)).2.1.length → ∀ (h1 : fH) (H : Heap) (locs : List Loc), h1 x = some (40, 0, .inr (8, mo mf_16)) → h1 a15 = some (56, 0, .inl (G.2.1 0, 5, .inl (fun i => nI (sl i)))) → h1 a16 = some (57, 0, .inl (G.2.1 0, 5, .inl (fun i => nI (sr i)))) → h1 a17 = some (58, 0, .inl (G.2.1 1, 5, .inr (.inl (fun i => lN (sc i))))) → h1 a24 = some (65, 0, .inl (G.2.1 0, 5, .inl (fun i => nI (cpk sl tl n i)))) → h1 a25 = some (66, 0, .inl (G.2.1 0, 5, .inl (fun i => nI (cpk sr tr n i)))) → h1 a26 = some (67, 0, .inl (G.2.1 1, 5, .inr (.inl (fun i => lN (cpk sc tc n i))))) → mS0 G h1 mf_16 → fF (inR [40, 56, 57, 58, 65, 66, 67]) h h1 → fX h sz h1 → fI G.1 g_cl (fA h sz) s.heap h1 H locs → ∀ ls : Array Slot, lv_has ls 9 [(0, .ref x), (6, .int pt), (7, .int 1), (8, .int (nI n))] → W p l e { frames := 2, cells := 0, slots := 0, locals := 73 } s m ([.ref x, .int (nI lot), .long (lN day), .long (lN on), .int pt] : List Value).toArray below meth c H locs 0 0 (MQ below (cQl G h sz (fun r h' => r = (if (rk (mK nf fl fk fd fw fv lot day on) (mE ne ef rr rm day)).1 = -1 then frA (rk (mK nf fl fk fd fw fv lot day on) (mE ne ef rr rm day)).2.2.2 CT pt else (-9223372036854775808)) ∧ ∃ mf', h' x = some (40, 0, .inr (8, mo mf')) ∧ (∀ j, j < 14 ∨ 26 < j → mf' j = mf j) ∧ mS0 G h' mf' ∧ mSh G h' mf' (nI lot) (rk (mK nf fl fk fd fw fv lot day on) (mE ne ef rr rm day)).1 (rk (mK nf fl fk fd fw fv lot day on) (mE ne ef rr rm day)).2.1 ∧ fF (inR [40, 56, 57, 58, 65, 66, 67]) h h')) ([.ref x, .int (nI lot), .long (lN day), .long (lN on), .int pt] : List Value).toArray s 0 0 (fA h sz)) (F0 m 80 ls []) := by
      intro k
      induction k with
      | zero =>
        intro n hn h1 H locs g_x g_a15 g_a16 g_a17 g_a24 g_a25 g_a26 hS0 hF hX hI ls hl
        have hn2 : n = (rk (mK nf fl fk fd fw fv lot day on) (mE ne ef rr rm day)).2.1.length := by omega
        refine lv_iload hx hb d_MO_duty_80 (lv_at hl 3 rfl) ?_
        refine lv_aload_n hx hb d_MO_duty_82 rfl (lv_at hl 0 rfl) ?_
        refine f_get (C := "DutyRulesModel") (T := T_MO) (N := 40) hx hb (fun w q => hT w (s_MO w q)) hown hK hI g_x rfl 18 (by decide) (hT _ w_827) (fun _ q => q) (mo_get (by decide) v_18) d_MO_duty_83 ?_
        refine lv_icmp_ge (tgt := 137) hx hb d_MO_duty_86 (by decide) (fun c_118 => ?_) (fun c_118 => absurd ((n_le (by omega) (by omega)).mpr (by omega)) c_118)
        refine lv_iload hx hb d_MO_duty_137 (lv_at hl 2 rfl) ?_
        refine lv_if_eq (tgt := 157) hx hb d_MO_duty_139 (by decide) (fun c_119 => absurd c_119 (by decide)) (fun c_119 => ?_)
        refine lv_aload_n hx hb d_MO_duty_142 rfl (lv_at hl 0 rfl) ?_
        refine f_get (C := "DutyRulesModel") (T := T_MO) (N := 40) hx hb (fun w q => hT w (s_MO w q)) hown hK hI g_x rfl 20 (by decide) (hT _ w_829) (fun _ q => q) (mo_get (by decide) v_20) d_MO_duty_143 ?_
        refine lv_ldc2 (v := 100000000000) hx hb hown (hT _ w_1042) d_MO_duty_146 ?_
        refine lv_iload hx hb d_MO_duty_149 (lv_at hl 1 rfl) ?_
        refine f_calll hI (f_runS C hI (c_MO_fraction l G h1 _ (rk (mK nf fl fk fd fw fv lot day on) (mE ne ef rr rm day)).2.2.2 100000000000 pt (by omega) (by omega) (by decide)) gm_MO_fraction w_1048 w_1047 rfl hl.1 rfl (Nat.le_of_ble_eq_true rfl) ⟨Nat.le_of_ble_eq_true rfl, Nat.le_of_ble_eq_true rfl⟩ d_MO_duty_151 ⟨Nat.le_of_ble_eq_true rfl, Nat.le_of_ble_eq_true rfl⟩) (fun r_120 h8 H9 locs hp9 hX9 hz9 hI => ?_)
        obtain ⟨rfl, e9⟩ := hp9
        rw [e9] at hI
        clear hX9 e9
        refine lv_goto (tgt := 160) hx hb d_MO_duty_154 (by decide) ?_
        exact f_lret C hr hI ⟨by rw [if_pos hk1]; rfl, mf_16, g_x, hm1, hS0, ⟨a24, a25, a26, cpk sl tl n, cpk sr tr n, cpk sc tc n, ⟨v_21, v_22, v_23, v_24, v_25, v_26⟩, ⟨g_a24, g_a25, g_a26⟩, hbd.2.2, fun i q hi => by have hil := (List.getElem?_eq_some_iff.mp hi).1; rw [cpk_lt (by omega), cpk_lt (by omega), cpk_lt (by omega)]; exact hq i q hi⟩, hF⟩ hX (Nat.le_refl _) (Nat.le_refl _) d_MO_duty_160
      | succ k ih =>
        intro n hn h1 H locs g_x g_a15 g_a16 g_a17 g_a24 g_a25 g_a26 hS0 hF hX hI ls hl
        have ih : ∀ n : Nat, n + k = (rk (mK nf fl fk fd fw fv lot day on) (mE ne ef rr rm day)).2.1.length → ∀ (h1 : fH) (H : Heap) (locs : List Loc), h1 x = some (40, 0, .inr (8, mo mf_16)) → h1 a15 = some (56, 0, .inl (G.2.1 0, 5, .inl (fun i => nI (sl i)))) → h1 a16 = some (57, 0, .inl (G.2.1 0, 5, .inl (fun i => nI (sr i)))) → h1 a17 = some (58, 0, .inl (G.2.1 1, 5, .inr (.inl (fun i => lN (sc i))))) → h1 a24 = some (65, 0, .inl (G.2.1 0, 5, .inl (fun i => nI (cpk sl tl n i)))) → h1 a25 = some (66, 0, .inl (G.2.1 0, 5, .inl (fun i => nI (cpk sr tr n i)))) → h1 a26 = some (67, 0, .inl (G.2.1 1, 5, .inr (.inl (fun i => lN (cpk sc tc n i))))) → mS0 G h1 mf_16 → fF (inR [40, 56, 57, 58, 65, 66, 67]) h h1 → fX h sz h1 → fI G.1 g_cl (fA h sz) s.heap h1 H locs → ∀ ls : Array Slot, lv_has ls 9 [(0, .ref x), (6, .int pt), (7, .int 1), (8, .int (nI n))] → W p l e { frames := 2, cells := 0, slots := 0, locals := 73 } s m ([.ref x, .int (nI lot), .long (lN day), .long (lN on), .int pt] : List Value).toArray below meth c H locs 0 0 (MQ below (cQl G h sz (fun r h' => r = (if (rk (mK nf fl fk fd fw fv lot day on) (mE ne ef rr rm day)).1 = -1 then frA (rk (mK nf fl fk fd fw fv lot day on) (mE ne ef rr rm day)).2.2.2 CT pt else (-9223372036854775808)) ∧ ∃ mf', h' x = some (40, 0, .inr (8, mo mf')) ∧ (∀ j, j < 14 ∨ 26 < j → mf' j = mf j) ∧ mS0 G h' mf' ∧ mSh G h' mf' (nI lot) (rk (mK nf fl fk fd fw fv lot day on) (mE ne ef rr rm day)).1 (rk (mK nf fl fk fd fw fv lot day on) (mE ne ef rr rm day)).2.1 ∧ fF (inR [40, 56, 57, 58, 65, 66, 67]) h h')) ([.ref x, .int (nI lot), .long (lN day), .long (lN on), .int pt] : List Value).toArray s 0 0 (fA h sz)) (F0 m 80 ls []) := ih
        have hn2 : n < (rk (mK nf fl fk fd fw fv lot day on) (mE ne ef rr rm day)).2.1.length := by omega
        refine lv_iload hx hb d_MO_duty_80 (lv_at hl 3 rfl) ?_
        refine lv_aload_n hx hb d_MO_duty_82 rfl (lv_at hl 0 rfl) ?_
        refine f_get (C := "DutyRulesModel") (T := T_MO) (N := 40) hx hb (fun w q => hT w (s_MO w q)) hown hK hI g_x rfl 18 (by decide) (hT _ w_827) (fun _ q => q) (mo_get (by decide) v_18) d_MO_duty_83 ?_
        refine lv_icmp_ge (tgt := 137) hx hb d_MO_duty_86 (by decide) (fun c_318 => absurd c_318 (fun q => absurd ((n_le (by omega) (by omega)).mp q) (by omega))) (fun c_318 => ?_)
        refine lv_aload_n hx hb d_MO_duty_89 rfl (lv_at hl 0 rfl) ?_
        refine f_get (C := "DutyRulesModel") (T := T_MO) (N := 40) hx hb (fun w q => hT w (s_MO w q)) hown hK hI g_x rfl 24 (by decide) (hT _ w_833) (fun _ q => q) (mo_get (by decide) v_24) d_MO_duty_90 ?_
        refine lv_iload hx hb d_MO_duty_93 (lv_at hl 3 rfl) ?_
        refine lv_aload_n hx hb d_MO_duty_95 rfl (lv_at hl 0 rfl) ?_
        refine f_get (C := "DutyRulesModel") (T := T_MO) (N := 40) hx hb (fun w q => hT w (s_MO w q)) hown hK hI g_x rfl 15 (by decide) (hT _ w_824) (fun _ q => q) (mo_get (by decide) v_15) d_MO_duty_96 ?_
        refine lv_iload hx hb d_MO_duty_99 (lv_at hl 3 rfl) ?_
        refine f_ialdn (k := n) (v := (nI (sl n))) hx hb hI g_a15 (fT.ofK hK (t0 := 0) rfl) (by omega) (by omega) rfl d_MO_duty_101 ?_
        refine f_iastn (k := n) (f' := (fun i => nI (cpk sl tl (n + 1) i))) hx hb hI g_a24 (by decide) (fT.ofK hK (t0 := 0) rfl) (by omega) (by omega) (cpk_i sl tl n) d_MO_duty_102 (fun H locs hI => ?_)
        generalize eh_319 : fU h1 a24 (65, 0, .inl ((G.2.1 0), 5, .inl (fun i => nI (cpk sl tl (n + 1) i)))) = h_319 at hI
        have hX := hX.set (e := .inl ((G.2.1 0), 5, .inl (fun i => nI (cpk sl tl (n + 1) i)))) g_a24 (by decide); rw [eh_319] at hX
        have hF := hF.set (e := .inl ((G.2.1 0), 5, .inl (fun i => nI (cpk sl tl (n + 1) i)))) g_a24 (by decide); rw [eh_319] at hF
        have g_a15 : h_319 a15 = some (56, 0, .inl ((G.2.1 0), 5, .inl (fun i => nI (sl i)))) := (congrFun eh_319 a15).symm.trans (fU_keep g_a15 (f_neR g_a15 g_a24 (by decide)))
        have g_a16 : h_319 a16 = some (57, 0, .inl ((G.2.1 0), 5, .inl (fun i => nI (sr i)))) := (congrFun eh_319 a16).symm.trans (fU_keep g_a16 (f_neR g_a16 g_a24 (by decide)))
        have g_a17 : h_319 a17 = some (58, 0, .inl ((G.2.1 1), 5, .inr (.inl (fun i => lN (sc i))))) := (congrFun eh_319 a17).symm.trans (fU_keep g_a17 (f_neR g_a17 g_a24 (by decide)))
        have g_a25 : h_319 a25 = some (66, 0, .inl ((G.2.1 0), 5, .inl (fun i => nI (cpk sr tr n i)))) := (congrFun eh_319 a25).symm.trans (fU_keep g_a25 (f_neR g_a25 g_a24 (by decide)))
        have g_a26 : h_319 a26 = some (67, 0, .inl ((G.2.1 1), 5, .inr (.inl (fun i => lN (cpk sc tc n i))))) := (congrFun eh_319 a26).symm.trans (fU_keep g_a26 (f_neR g_a26 g_a24 (by decide)))
        have g_x : h_319 x = some (40, 0, .inr (8, mo mf_16)) := (congrFun eh_319 x).symm.trans (fU_keep g_x (f_neR g_x g_a24 (by decide)))
        have hW9 : fF (inR [65]) h1 h_319 := by rw [← eh_319]; exact fF.rf.set g_a24 (by decide)
        have g_a24 : h_319 a24 = some (65, 0, .inl ((G.2.1 0), 5, .inl (fun i => nI (cpk sl tl (n + 1) i)))) := (congrFun eh_319 a24).symm.trans (fU_self _ _ _)
        have hS0 := mS0.keep hS0 (fun _ _ _ => rfl) hW9 (by decide)
        refine lv_aload_n hx hb d_MO_duty_103 rfl (lv_at hl 0 rfl) ?_
        refine f_get (C := "DutyRulesModel") (T := T_MO) (N := 40) hx hb (fun w q => hT w (s_MO w q)) hown hK hI g_x rfl 25 (by decide) (hT _ w_834) (fun _ q => q) (mo_get (by decide) v_25) d_MO_duty_104 ?_
        refine lv_iload hx hb d_MO_duty_107 (lv_at hl 3 rfl) ?_
        refine lv_aload_n hx hb d_MO_duty_109 rfl (lv_at hl 0 rfl) ?_
        refine f_get (C := "DutyRulesModel") (T := T_MO) (N := 40) hx hb (fun w q => hT w (s_MO w q)) hown hK hI g_x rfl 16 (by decide) (hT _ w_825) (fun _ q => q) (mo_get (by decide) v_16) d_MO_duty_110 ?_
        refine lv_iload hx hb d_MO_duty_113 (lv_at hl 3 rfl) ?_
        refine f_ialdn (k := n) (v := (nI (sr n))) hx hb hI g_a16 (fT.ofK hK (t0 := 0) rfl) (by omega) (by omega) rfl d_MO_duty_115 ?_
        refine f_iastn (k := n) (f' := (fun i => nI (cpk sr tr (n + 1) i))) hx hb hI g_a25 (by decide) (fT.ofK hK (t0 := 0) rfl) (by omega) (by omega) (cpk_i sr tr n) d_MO_duty_116 (fun H locs hI => ?_)
        generalize eh_320 : fU h_319 a25 (66, 0, .inl ((G.2.1 0), 5, .inl (fun i => nI (cpk sr tr (n + 1) i)))) = h_320 at hI
        have hX := hX.set (e := .inl ((G.2.1 0), 5, .inl (fun i => nI (cpk sr tr (n + 1) i)))) g_a25 (by decide); rw [eh_320] at hX
        have hF := hF.set (e := .inl ((G.2.1 0), 5, .inl (fun i => nI (cpk sr tr (n + 1) i)))) g_a25 (by decide); rw [eh_320] at hF
        have g_a15 : h_320 a15 = some (56, 0, .inl ((G.2.1 0), 5, .inl (fun i => nI (sl i)))) := (congrFun eh_320 a15).symm.trans (fU_keep g_a15 (f_neR g_a15 g_a25 (by decide)))
        have g_a16 : h_320 a16 = some (57, 0, .inl ((G.2.1 0), 5, .inl (fun i => nI (sr i)))) := (congrFun eh_320 a16).symm.trans (fU_keep g_a16 (f_neR g_a16 g_a25 (by decide)))
        have g_a17 : h_320 a17 = some (58, 0, .inl ((G.2.1 1), 5, .inr (.inl (fun i => lN (sc i))))) := (congrFun eh_320 a17).symm.trans (fU_keep g_a17 (f_neR g_a17 g_a25 (by decide)))
        have g_a24 : h_320 a24 = some (65, 0, .inl ((G.2.1 0), 5, .inl (fun i => nI (cpk sl tl (n + 1) i)))) := (congrFun eh_320 a24).symm.trans (fU_keep g_a24 (f_neR g_a24 g_a25 (by decide)))
        have g_a26 : h_320 a26 = some (67, 0, .inl ((G.2.1 1), 5, .inr (.inl (fun i => lN (cpk sc tc n i))))) := (congrFun eh_320 a26).symm.trans (fU_keep g_a26 (f_neR g_a26 g_a25 (by decide)))
        have g_x : h_320 x = some (40, 0, .inr (8, mo mf_16)) := (congrFun eh_320 x).symm.trans (fU_keep g_x (f_neR g_x g_a25 (by decide)))
        have hW9 : fF (inR [66]) h_319 h_320 := by rw [← eh_320]; exact fF.rf.set g_a25 (by decide)
        have g_a25 : h_320 a25 = some (66, 0, .inl ((G.2.1 0), 5, .inl (fun i => nI (cpk sr tr (n + 1) i)))) := (congrFun eh_320 a25).symm.trans (fU_self _ _ _)
        have hS0 := mS0.keep hS0 (fun _ _ _ => rfl) hW9 (by decide)
        refine lv_aload_n hx hb d_MO_duty_117 rfl (lv_at hl 0 rfl) ?_
        refine f_get (C := "DutyRulesModel") (T := T_MO) (N := 40) hx hb (fun w q => hT w (s_MO w q)) hown hK hI g_x rfl 26 (by decide) (hT _ w_835) (fun _ q => q) (mo_get (by decide) v_26) d_MO_duty_118 ?_
        refine lv_iload hx hb d_MO_duty_121 (lv_at hl 3 rfl) ?_
        refine lv_aload_n hx hb d_MO_duty_123 rfl (lv_at hl 0 rfl) ?_
        refine f_get (C := "DutyRulesModel") (T := T_MO) (N := 40) hx hb (fun w q => hT w (s_MO w q)) hown hK hI g_x rfl 17 (by decide) (hT _ w_826) (fun _ q => q) (mo_get (by decide) v_17) d_MO_duty_124 ?_
        refine lv_iload hx hb d_MO_duty_127 (lv_at hl 3 rfl) ?_
        refine f_laldn (k := n) (v := (lN (sc n))) hx hb hI g_a17 (fT.ofK hK (t0 := 1) rfl) (by omega) (by omega) rfl d_MO_duty_129 ?_
        refine f_lastn (k := n) (f' := (fun i => lN (cpk sc tc (n + 1) i))) hx hb hI g_a26 (by decide) (fT.ofK hK (t0 := 1) rfl) (by omega) (by omega) (cpk_l sc tc n) d_MO_duty_130 (fun H locs hI => ?_)
        generalize eh_321 : fU h_320 a26 (67, 0, .inl ((G.2.1 1), 5, .inr (.inl (fun i => lN (cpk sc tc (n + 1) i))))) = h_321 at hI
        have hX := hX.set (e := .inl ((G.2.1 1), 5, .inr (.inl (fun i => lN (cpk sc tc (n + 1) i))))) g_a26 (by decide); rw [eh_321] at hX
        have hF := hF.set (e := .inl ((G.2.1 1), 5, .inr (.inl (fun i => lN (cpk sc tc (n + 1) i))))) g_a26 (by decide); rw [eh_321] at hF
        have g_a15 : h_321 a15 = some (56, 0, .inl ((G.2.1 0), 5, .inl (fun i => nI (sl i)))) := (congrFun eh_321 a15).symm.trans (fU_keep g_a15 (f_neR g_a15 g_a26 (by decide)))
        have g_a16 : h_321 a16 = some (57, 0, .inl ((G.2.1 0), 5, .inl (fun i => nI (sr i)))) := (congrFun eh_321 a16).symm.trans (fU_keep g_a16 (f_neR g_a16 g_a26 (by decide)))
        have g_a17 : h_321 a17 = some (58, 0, .inl ((G.2.1 1), 5, .inr (.inl (fun i => lN (sc i))))) := (congrFun eh_321 a17).symm.trans (fU_keep g_a17 (f_neR g_a17 g_a26 (by decide)))
        have g_a24 : h_321 a24 = some (65, 0, .inl ((G.2.1 0), 5, .inl (fun i => nI (cpk sl tl (n + 1) i)))) := (congrFun eh_321 a24).symm.trans (fU_keep g_a24 (f_neR g_a24 g_a26 (by decide)))
        have g_a25 : h_321 a25 = some (66, 0, .inl ((G.2.1 0), 5, .inl (fun i => nI (cpk sr tr (n + 1) i)))) := (congrFun eh_321 a25).symm.trans (fU_keep g_a25 (f_neR g_a25 g_a26 (by decide)))
        have g_x : h_321 x = some (40, 0, .inr (8, mo mf_16)) := (congrFun eh_321 x).symm.trans (fU_keep g_x (f_neR g_x g_a26 (by decide)))
        have hW9 : fF (inR [67]) h_320 h_321 := by rw [← eh_321]; exact fF.rf.set g_a26 (by decide)
        have g_a26 : h_321 a26 = some (67, 0, .inl ((G.2.1 1), 5, .inr (.inl (fun i => lN (cpk sc tc (n + 1) i))))) := (congrFun eh_321 a26).symm.trans (fU_self _ _ _)
        have hS0 := mS0.keep hS0 (fun _ _ _ => rfl) hW9 (by decide)
        refine lv_iinc (v := nI (n + 1)) (lv' := [(8, .int (nI (n + 1))), (0, .ref x), (6, .int pt), (7, .int 1)]) hx hb d_MO_duty_131 hl (k := 3) rfl (f_inc1 _) (by decide) rfl (fun ls hl => ?_)
        refine lv_goto (tgt := 80) hx hb d_MO_duty_134 (by decide) ?_
        exact ih (n + 1) (by omega) _ _ _ g_x g_a15 g_a16 g_a17 g_a24 g_a25 g_a26 hS0 hF hX hI ls (lv_sub hl [1, 2, 3, 0] rfl)
    exact LOOP (rk (mK nf fl fk fd fw fv lot day on) (mE ne ef rr rm day)).2.1.length 0 (by omega) _ _ _ g_x g_a15 g_a16 g_a17 (by rw [cpk_0]; exact g_a24) (by rw [cpk_0]; exact g_a25) (by rw [cpk_0]; exact g_a26) hS0 hF hX hI ls (lv_sub hl [2, 6, 1, 0] rfl)
  · refine f_asi (if_neg hk1) ?_
    have hd0 := rk_open hk1
    have hS0 := hSd.s0
    obtain ⟨a24, a25, a26, tl, tr, tc, ⟨v_21, v_22, v_23, v_24, v_25, v_26⟩, ⟨g_a24, g_a25, g_a26⟩, bL, hq2⟩ := hSh
    obtain ⟨sl, sr, sc, hSt, hq⟩ := hSd
    obtain ⟨a15, a16, a17, ⟨v_14, v_15, v_16, v_17, v_18, v_19, v_20⟩, ⟨g_a15, g_a16, g_a17⟩⟩ := id hSt
    have hl0 : (rk (mK nf fl fk fd fw fv lot day on) (mE ne ef rr rm day)).2.1.length = 0 := by rw [hd0]; rfl
    refine lv_istore (lv' := [(7, .int 0), (0, .ref x), (1, .int (nI lot)), (2, .long (lN day)), (4, .long (lN on)), (6, .int pt)]) hx hb d_MO_duty_45 hl (by decide) rfl (fun ls hl => ?_)
    refine lv_aload_n hx hb d_MO_duty_47 rfl (lv_at hl 1 rfl) ?_
    refine lv_iload_n hx hb d_MO_duty_48 rfl (lv_at hl 2 rfl) ?_
    refine f_put (C := "DutyRulesModel") (T := T_MO) (N := 40) (fs' := mo (va_up mf_10 21 (.int (nI lot)))) (v := .int (nI lot)) hx hb (fun w q => hT w (s_MO w q)) t_MO k_MO n_MO hown hK hI g_x (by decide) rfl 21 (by decide) (hT _ w_830) (fun _ q => q) rfl rfl rfl (by rw [mo_len]; decide) (mo_set _) d_MO_duty_49 (fun H locs hI => ?_)
    generalize emf_518 : va_up mf_10 21 (.int (nI lot)) = mf_518 at hI
    have v_14 : mf_518 14 = .int (rk (mK nf fl fk fd fw fv lot day on) (mE ne ef rr rm day)).1 := (congrFun emf_518 14).symm.trans ((va_up_ne _ _ (by decide)).trans v_14)
    have v_15 : mf_518 15 = .ref a15 := (congrFun emf_518 15).symm.trans ((va_up_ne _ _ (by decide)).trans v_15)
    have v_16 : mf_518 16 = .ref a16 := (congrFun emf_518 16).symm.trans ((va_up_ne _ _ (by decide)).trans v_16)
    have v_17 : mf_518 17 = .ref a17 := (congrFun emf_518 17).symm.trans ((va_up_ne _ _ (by decide)).trans v_17)
    have v_18 : mf_518 18 = .int (nI (rk (mK nf fl fk fd fw fv lot day on) (mE ne ef rr rm day)).2.1.length) := (congrFun emf_518 18).symm.trans ((va_up_ne _ _ (by decide)).trans v_18)
    have v_19 : mf_518 19 = .long (lN (rk (mK nf fl fk fd fw fv lot day on) (mE ne ef rr rm day)).2.2.1) := (congrFun emf_518 19).symm.trans ((va_up_ne _ _ (by decide)).trans v_19)
    have v_20 : mf_518 20 = .long (lN (rk (mK nf fl fk fd fw fv lot day on) (mE ne ef rr rm day)).2.2.2) := (congrFun emf_518 20).symm.trans ((va_up_ne _ _ (by decide)).trans v_20)
    have v_22 : mf_518 22 = .int sR := (congrFun emf_518 22).symm.trans ((va_up_ne _ _ (by decide)).trans v_22)
    have v_23 : mf_518 23 = .int (nI L.length) := (congrFun emf_518 23).symm.trans ((va_up_ne _ _ (by decide)).trans v_23)
    have v_24 : mf_518 24 = .ref a24 := (congrFun emf_518 24).symm.trans ((va_up_ne _ _ (by decide)).trans v_24)
    have v_25 : mf_518 25 = .ref a25 := (congrFun emf_518 25).symm.trans ((va_up_ne _ _ (by decide)).trans v_25)
    have v_26 : mf_518 26 = .ref a26 := (congrFun emf_518 26).symm.trans ((va_up_ne _ _ (by decide)).trans v_26)
    have v_21 : mf_518 21 = .int (nI lot) := (congrFun emf_518 21).symm.trans (va_up_self _ _ _)
    generalize eh_519 : fU h9 x (40, 0, .inr (8, mo mf_518)) = h_519 at hI
    have hX := hX.set (e := .inr (8, mo mf_518)) g_x (by decide); rw [eh_519] at hX
    have hF := hF.set (e := .inr (8, mo mf_518)) g_x (by decide); rw [eh_519] at hF
    have g_a15 : h_519 a15 = some (56, 0, .inl ((G.2.1 0), 5, .inl (fun i => nI (sl i)))) := (congrFun eh_519 a15).symm.trans (fU_keep g_a15 (f_neR g_a15 g_x (by decide)))
    have g_a16 : h_519 a16 = some (57, 0, .inl ((G.2.1 0), 5, .inl (fun i => nI (sr i)))) := (congrFun eh_519 a16).symm.trans (fU_keep g_a16 (f_neR g_a16 g_x (by decide)))
    have g_a17 : h_519 a17 = some (58, 0, .inl ((G.2.1 1), 5, .inr (.inl (fun i => lN (sc i))))) := (congrFun eh_519 a17).symm.trans (fU_keep g_a17 (f_neR g_a17 g_x (by decide)))
    have g_a24 : h_519 a24 = some (65, 0, .inl ((G.2.1 0), 5, .inl (fun i => nI (tl i)))) := (congrFun eh_519 a24).symm.trans (fU_keep g_a24 (f_neR g_a24 g_x (by decide)))
    have g_a25 : h_519 a25 = some (66, 0, .inl ((G.2.1 0), 5, .inl (fun i => nI (tr i)))) := (congrFun eh_519 a25).symm.trans (fU_keep g_a25 (f_neR g_a25 g_x (by decide)))
    have g_a26 : h_519 a26 = some (67, 0, .inl ((G.2.1 1), 5, .inr (.inl (fun i => lN (tc i))))) := (congrFun eh_519 a26).symm.trans (fU_keep g_a26 (f_neR g_a26 g_x (by decide)))
    have hW9 : fF (inR [40]) h9 h_519 := by rw [← eh_519]; exact fF.rf.set g_x (by decide)
    have g_x : h_519 x = some (40, 0, .inr (8, mo mf_518)) := (congrFun eh_519 x).symm.trans (fU_self _ _ _)
    have hS0 := mS0.keep (mf' := mf_518) hS0 (fun j h1 h2 => (congrFun emf_518 j).symm.trans (va_up_ne _ _ (ne_out h1 h2 (by decide)))) hW9 (by decide)
    have hm1 : ∀ j, j < 14 ∨ 26 < j → mf_518 j = mf j := fun j hj => (congrFun emf_518 j).symm.trans ((va_up_ne _ _ (ne_rng hj (by decide))).trans (hm1 j hj))
    refine lv_aload_n hx hb d_MO_duty_52 rfl (lv_at hl 1 rfl) ?_
    refine lv_aload_n hx hb d_MO_duty_53 rfl (lv_at hl 1 rfl) ?_
    refine f_get (C := "DutyRulesModel") (T := T_MO) (N := 40) hx hb (fun w q => hT w (s_MO w q)) hown hK hI g_x rfl 14 (by decide) (hT _ w_823) (fun _ q => q) (mo_get (by decide) v_14) d_MO_duty_54 ?_
    refine f_put (C := "DutyRulesModel") (T := T_MO) (N := 40) (fs' := mo (va_up mf_518 22 (.int (rk (mK nf fl fk fd fw fv lot day on) (mE ne ef rr rm day)).1))) (v := .int (rk (mK nf fl fk fd fw fv lot day on) (mE ne ef rr rm day)).1) hx hb (fun w q => hT w (s_MO w q)) t_MO k_MO n_MO hown hK hI g_x (by decide) rfl 22 (by decide) (hT _ w_831) (fun _ q => q) rfl rfl rfl (by rw [mo_len]; decide) (mo_set _) d_MO_duty_57 (fun H locs hI => ?_)
    generalize emf_520 : va_up mf_518 22 (.int (rk (mK nf fl fk fd fw fv lot day on) (mE ne ef rr rm day)).1) = mf_520 at hI
    have v_14 : mf_520 14 = .int (rk (mK nf fl fk fd fw fv lot day on) (mE ne ef rr rm day)).1 := (congrFun emf_520 14).symm.trans ((va_up_ne _ _ (by decide)).trans v_14)
    have v_15 : mf_520 15 = .ref a15 := (congrFun emf_520 15).symm.trans ((va_up_ne _ _ (by decide)).trans v_15)
    have v_16 : mf_520 16 = .ref a16 := (congrFun emf_520 16).symm.trans ((va_up_ne _ _ (by decide)).trans v_16)
    have v_17 : mf_520 17 = .ref a17 := (congrFun emf_520 17).symm.trans ((va_up_ne _ _ (by decide)).trans v_17)
    have v_18 : mf_520 18 = .int (nI (rk (mK nf fl fk fd fw fv lot day on) (mE ne ef rr rm day)).2.1.length) := (congrFun emf_520 18).symm.trans ((va_up_ne _ _ (by decide)).trans v_18)
    have v_19 : mf_520 19 = .long (lN (rk (mK nf fl fk fd fw fv lot day on) (mE ne ef rr rm day)).2.2.1) := (congrFun emf_520 19).symm.trans ((va_up_ne _ _ (by decide)).trans v_19)
    have v_20 : mf_520 20 = .long (lN (rk (mK nf fl fk fd fw fv lot day on) (mE ne ef rr rm day)).2.2.2) := (congrFun emf_520 20).symm.trans ((va_up_ne _ _ (by decide)).trans v_20)
    have v_21 : mf_520 21 = .int (nI lot) := (congrFun emf_520 21).symm.trans ((va_up_ne _ _ (by decide)).trans v_21)
    have v_23 : mf_520 23 = .int (nI L.length) := (congrFun emf_520 23).symm.trans ((va_up_ne _ _ (by decide)).trans v_23)
    have v_24 : mf_520 24 = .ref a24 := (congrFun emf_520 24).symm.trans ((va_up_ne _ _ (by decide)).trans v_24)
    have v_25 : mf_520 25 = .ref a25 := (congrFun emf_520 25).symm.trans ((va_up_ne _ _ (by decide)).trans v_25)
    have v_26 : mf_520 26 = .ref a26 := (congrFun emf_520 26).symm.trans ((va_up_ne _ _ (by decide)).trans v_26)
    have v_22 : mf_520 22 = .int (rk (mK nf fl fk fd fw fv lot day on) (mE ne ef rr rm day)).1 := (congrFun emf_520 22).symm.trans (va_up_self _ _ _)
    generalize eh_521 : fU h_519 x (40, 0, .inr (8, mo mf_520)) = h_521 at hI
    have hX := hX.set (e := .inr (8, mo mf_520)) g_x (by decide); rw [eh_521] at hX
    have hF := hF.set (e := .inr (8, mo mf_520)) g_x (by decide); rw [eh_521] at hF
    have g_a15 : h_521 a15 = some (56, 0, .inl ((G.2.1 0), 5, .inl (fun i => nI (sl i)))) := (congrFun eh_521 a15).symm.trans (fU_keep g_a15 (f_neR g_a15 g_x (by decide)))
    have g_a16 : h_521 a16 = some (57, 0, .inl ((G.2.1 0), 5, .inl (fun i => nI (sr i)))) := (congrFun eh_521 a16).symm.trans (fU_keep g_a16 (f_neR g_a16 g_x (by decide)))
    have g_a17 : h_521 a17 = some (58, 0, .inl ((G.2.1 1), 5, .inr (.inl (fun i => lN (sc i))))) := (congrFun eh_521 a17).symm.trans (fU_keep g_a17 (f_neR g_a17 g_x (by decide)))
    have g_a24 : h_521 a24 = some (65, 0, .inl ((G.2.1 0), 5, .inl (fun i => nI (tl i)))) := (congrFun eh_521 a24).symm.trans (fU_keep g_a24 (f_neR g_a24 g_x (by decide)))
    have g_a25 : h_521 a25 = some (66, 0, .inl ((G.2.1 0), 5, .inl (fun i => nI (tr i)))) := (congrFun eh_521 a25).symm.trans (fU_keep g_a25 (f_neR g_a25 g_x (by decide)))
    have g_a26 : h_521 a26 = some (67, 0, .inl ((G.2.1 1), 5, .inr (.inl (fun i => lN (tc i))))) := (congrFun eh_521 a26).symm.trans (fU_keep g_a26 (f_neR g_a26 g_x (by decide)))
    have hW9 : fF (inR [40]) h_519 h_521 := by rw [← eh_521]; exact fF.rf.set g_x (by decide)
    have g_x : h_521 x = some (40, 0, .inr (8, mo mf_520)) := (congrFun eh_521 x).symm.trans (fU_self _ _ _)
    have hS0 := mS0.keep (mf' := mf_520) hS0 (fun j h1 h2 => (congrFun emf_520 j).symm.trans (va_up_ne _ _ (ne_out h1 h2 (by decide)))) hW9 (by decide)
    have hm1 : ∀ j, j < 14 ∨ 26 < j → mf_520 j = mf j := fun j hj => (congrFun emf_520 j).symm.trans ((va_up_ne _ _ (ne_rng hj (by decide))).trans (hm1 j hj))
    refine lv_aload_n hx hb d_MO_duty_60 rfl (lv_at hl 1 rfl) ?_
    refine lv_iload hx hb d_MO_duty_61 (lv_at hl 0 rfl) ?_
    refine lv_if_eq (tgt := 73) hx hb d_MO_duty_63 (by decide) (fun c_522 => ?_) (fun c_522 => absurd (by decide) c_522)
    refine lv_iconst (v := 0) hx hb d_MO_duty_73 (by decide) ?_
    refine f_put (C := "DutyRulesModel") (T := T_MO) (N := 40) (fs' := mo (va_up mf_520 23 (.int 0))) (v := .int 0) hx hb (fun w q => hT w (s_MO w q)) t_MO k_MO n_MO hown hK hI g_x (by decide) rfl 23 (by decide) (hT _ w_832) (fun _ q => q) rfl rfl rfl (by rw [mo_len]; decide) (mo_set _) d_MO_duty_74 (fun H locs hI => ?_)
    generalize emf_523 : va_up mf_520 23 (.int 0) = mf_523 at hI
    have v_14 : mf_523 14 = .int (rk (mK nf fl fk fd fw fv lot day on) (mE ne ef rr rm day)).1 := (congrFun emf_523 14).symm.trans ((va_up_ne _ _ (by decide)).trans v_14)
    have v_15 : mf_523 15 = .ref a15 := (congrFun emf_523 15).symm.trans ((va_up_ne _ _ (by decide)).trans v_15)
    have v_16 : mf_523 16 = .ref a16 := (congrFun emf_523 16).symm.trans ((va_up_ne _ _ (by decide)).trans v_16)
    have v_17 : mf_523 17 = .ref a17 := (congrFun emf_523 17).symm.trans ((va_up_ne _ _ (by decide)).trans v_17)
    have v_18 : mf_523 18 = .int (nI (rk (mK nf fl fk fd fw fv lot day on) (mE ne ef rr rm day)).2.1.length) := (congrFun emf_523 18).symm.trans ((va_up_ne _ _ (by decide)).trans v_18)
    have v_19 : mf_523 19 = .long (lN (rk (mK nf fl fk fd fw fv lot day on) (mE ne ef rr rm day)).2.2.1) := (congrFun emf_523 19).symm.trans ((va_up_ne _ _ (by decide)).trans v_19)
    have v_20 : mf_523 20 = .long (lN (rk (mK nf fl fk fd fw fv lot day on) (mE ne ef rr rm day)).2.2.2) := (congrFun emf_523 20).symm.trans ((va_up_ne _ _ (by decide)).trans v_20)
    have v_21 : mf_523 21 = .int (nI lot) := (congrFun emf_523 21).symm.trans ((va_up_ne _ _ (by decide)).trans v_21)
    have v_22 : mf_523 22 = .int (rk (mK nf fl fk fd fw fv lot day on) (mE ne ef rr rm day)).1 := (congrFun emf_523 22).symm.trans ((va_up_ne _ _ (by decide)).trans v_22)
    have v_24 : mf_523 24 = .ref a24 := (congrFun emf_523 24).symm.trans ((va_up_ne _ _ (by decide)).trans v_24)
    have v_25 : mf_523 25 = .ref a25 := (congrFun emf_523 25).symm.trans ((va_up_ne _ _ (by decide)).trans v_25)
    have v_26 : mf_523 26 = .ref a26 := (congrFun emf_523 26).symm.trans ((va_up_ne _ _ (by decide)).trans v_26)
    have v_23 : mf_523 23 = .int 0 := (congrFun emf_523 23).symm.trans (va_up_self _ _ _)
    generalize eh_524 : fU h_521 x (40, 0, .inr (8, mo mf_523)) = h_524 at hI
    have hX := hX.set (e := .inr (8, mo mf_523)) g_x (by decide); rw [eh_524] at hX
    have hF := hF.set (e := .inr (8, mo mf_523)) g_x (by decide); rw [eh_524] at hF
    have g_a15 : h_524 a15 = some (56, 0, .inl ((G.2.1 0), 5, .inl (fun i => nI (sl i)))) := (congrFun eh_524 a15).symm.trans (fU_keep g_a15 (f_neR g_a15 g_x (by decide)))
    have g_a16 : h_524 a16 = some (57, 0, .inl ((G.2.1 0), 5, .inl (fun i => nI (sr i)))) := (congrFun eh_524 a16).symm.trans (fU_keep g_a16 (f_neR g_a16 g_x (by decide)))
    have g_a17 : h_524 a17 = some (58, 0, .inl ((G.2.1 1), 5, .inr (.inl (fun i => lN (sc i))))) := (congrFun eh_524 a17).symm.trans (fU_keep g_a17 (f_neR g_a17 g_x (by decide)))
    have g_a24 : h_524 a24 = some (65, 0, .inl ((G.2.1 0), 5, .inl (fun i => nI (tl i)))) := (congrFun eh_524 a24).symm.trans (fU_keep g_a24 (f_neR g_a24 g_x (by decide)))
    have g_a25 : h_524 a25 = some (66, 0, .inl ((G.2.1 0), 5, .inl (fun i => nI (tr i)))) := (congrFun eh_524 a25).symm.trans (fU_keep g_a25 (f_neR g_a25 g_x (by decide)))
    have g_a26 : h_524 a26 = some (67, 0, .inl ((G.2.1 1), 5, .inr (.inl (fun i => lN (tc i))))) := (congrFun eh_524 a26).symm.trans (fU_keep g_a26 (f_neR g_a26 g_x (by decide)))
    have hW9 : fF (inR [40]) h_521 h_524 := by rw [← eh_524]; exact fF.rf.set g_x (by decide)
    have g_x : h_524 x = some (40, 0, .inr (8, mo mf_523)) := (congrFun eh_524 x).symm.trans (fU_self _ _ _)
    have hS0 := mS0.keep (mf' := mf_523) hS0 (fun j h1 h2 => (congrFun emf_523 j).symm.trans (va_up_ne _ _ (ne_out h1 h2 (by decide)))) hW9 (by decide)
    have hm1 : ∀ j, j < 14 ∨ 26 < j → mf_523 j = mf j := fun j hj => (congrFun emf_523 j).symm.trans ((va_up_ne _ _ (ne_rng hj (by decide))).trans (hm1 j hj))
    refine lv_iconst (v := 0) hx hb d_MO_duty_77 (by decide) ?_
    refine lv_istore (lv' := [(8, .int 0), (7, .int 0), (0, .ref x), (1, .int (nI lot)), (2, .long (lN day)), (4, .long (lN on)), (6, .int pt)]) hx hb d_MO_duty_78 hl (by decide) rfl (fun ls hl => ?_)
    have LOOP : ∀ (k n : Nat), n + k = (rk (mK nf fl fk fd fw fv lot day on) (mE ne ef rr rm day)).2.1.length → ∀ (h1 : fH) (H : Heap) (locs : List Loc), h1 x = some (40, 0, .inr (8, mo mf_523)) → h1 a15 = some (56, 0, .inl (G.2.1 0, 5, .inl (fun i => nI (sl i)))) → h1 a16 = some (57, 0, .inl (G.2.1 0, 5, .inl (fun i => nI (sr i)))) → h1 a17 = some (58, 0, .inl (G.2.1 1, 5, .inr (.inl (fun i => lN (sc i))))) → h1 a24 = some (65, 0, .inl (G.2.1 0, 5, .inl (fun i => nI (cpk sl tl n i)))) → h1 a25 = some (66, 0, .inl (G.2.1 0, 5, .inl (fun i => nI (cpk sr tr n i)))) → h1 a26 = some (67, 0, .inl (G.2.1 1, 5, .inr (.inl (fun i => lN (cpk sc tc n i))))) → mS0 G h1 mf_523 → fF (inR [40, 56, 57, 58, 65, 66, 67]) h h1 → fX h sz h1 → fI G.1 g_cl (fA h sz) s.heap h1 H locs → ∀ ls : Array Slot, lv_has ls 9 [(0, .ref x), (6, .int pt), (7, .int 0), (8, .int (nI n))] → W p l e { frames := 2, cells := 0, slots := 0, locals := 73 } s m ([.ref x, .int (nI lot), .long (lN day), .long (lN on), .int pt] : List Value).toArray below meth c H locs 0 0 (MQ below (cQl G h sz (fun r h' => r = (if (rk (mK nf fl fk fd fw fv lot day on) (mE ne ef rr rm day)).1 = -1 then frA (rk (mK nf fl fk fd fw fv lot day on) (mE ne ef rr rm day)).2.2.2 CT pt else (-9223372036854775808)) ∧ ∃ mf', h' x = some (40, 0, .inr (8, mo mf')) ∧ (∀ j, j < 14 ∨ 26 < j → mf' j = mf j) ∧ mS0 G h' mf' ∧ mSh G h' mf' (nI lot) (rk (mK nf fl fk fd fw fv lot day on) (mE ne ef rr rm day)).1 (rk (mK nf fl fk fd fw fv lot day on) (mE ne ef rr rm day)).2.1 ∧ fF (inR [40, 56, 57, 58, 65, 66, 67]) h h')) ([.ref x, .int (nI lot), .long (lN day), .long (lN on), .int pt] : List Value).toArray s 0 0 (fA h sz)) (F0 m 80 ls []) := by
      intro k
      induction k with
      | zero =>
        intro n hn h1 H locs g_x g_a15 g_a16 g_a17 g_a24 g_a25 g_a26 hS0 hF hX hI ls hl
        have hn2 : n = (rk (mK nf fl fk fd fw fv lot day on) (mE ne ef rr rm day)).2.1.length := by omega
        refine lv_iload hx hb d_MO_duty_80 (lv_at hl 3 rfl) ?_
        refine lv_aload_n hx hb d_MO_duty_82 rfl (lv_at hl 0 rfl) ?_
        refine f_get (C := "DutyRulesModel") (T := T_MO) (N := 40) hx hb (fun w q => hT w (s_MO w q)) hown hK hI g_x rfl 18 (by decide) (hT _ w_827) (fun _ q => q) (mo_get (by decide) v_18) d_MO_duty_83 ?_
        refine lv_icmp_ge (tgt := 137) hx hb d_MO_duty_86 (by decide) (fun c_625 => ?_) (fun c_625 => absurd ((n_le (by omega) (by omega)).mpr (by omega)) c_625)
        refine lv_iload hx hb d_MO_duty_137 (lv_at hl 2 rfl) ?_
        refine lv_if_eq (tgt := 157) hx hb d_MO_duty_139 (by decide) (fun c_626 => ?_) (fun c_626 => absurd (by decide) c_626)
        refine lv_ldc2 (v := (-9223372036854775808)) hx hb hown (hT _ w_1017) d_MO_duty_157 ?_
        exact f_lret C hr hI ⟨by rw [if_neg hk1], mf_523, g_x, hm1, hS0, ⟨a24, a25, a26, cpk sl tl n, cpk sr tr n, cpk sc tc n, ⟨v_21, v_22, (by rw [hl0]; exact v_23), v_24, v_25, v_26⟩, ⟨g_a24, g_a25, g_a26⟩, hbd.2.2, fun i q hi => by have hil := (List.getElem?_eq_some_iff.mp hi).1; rw [cpk_lt (by omega), cpk_lt (by omega), cpk_lt (by omega)]; exact hq i q hi⟩, hF⟩ hX (Nat.le_refl _) (Nat.le_refl _) d_MO_duty_160
      | succ k ih =>
        intro n hn h1 H locs g_x g_a15 g_a16 g_a17 g_a24 g_a25 g_a26 hS0 hF hX hI ls hl
        have ih : ∀ n : Nat, n + k = (rk (mK nf fl fk fd fw fv lot day on) (mE ne ef rr rm day)).2.1.length → ∀ (h1 : fH) (H : Heap) (locs : List Loc), h1 x = some (40, 0, .inr (8, mo mf_523)) → h1 a15 = some (56, 0, .inl (G.2.1 0, 5, .inl (fun i => nI (sl i)))) → h1 a16 = some (57, 0, .inl (G.2.1 0, 5, .inl (fun i => nI (sr i)))) → h1 a17 = some (58, 0, .inl (G.2.1 1, 5, .inr (.inl (fun i => lN (sc i))))) → h1 a24 = some (65, 0, .inl (G.2.1 0, 5, .inl (fun i => nI (cpk sl tl n i)))) → h1 a25 = some (66, 0, .inl (G.2.1 0, 5, .inl (fun i => nI (cpk sr tr n i)))) → h1 a26 = some (67, 0, .inl (G.2.1 1, 5, .inr (.inl (fun i => lN (cpk sc tc n i))))) → mS0 G h1 mf_523 → fF (inR [40, 56, 57, 58, 65, 66, 67]) h h1 → fX h sz h1 → fI G.1 g_cl (fA h sz) s.heap h1 H locs → ∀ ls : Array Slot, lv_has ls 9 [(0, .ref x), (6, .int pt), (7, .int 0), (8, .int (nI n))] → W p l e { frames := 2, cells := 0, slots := 0, locals := 73 } s m ([.ref x, .int (nI lot), .long (lN day), .long (lN on), .int pt] : List Value).toArray below meth c H locs 0 0 (MQ below (cQl G h sz (fun r h' => r = (if (rk (mK nf fl fk fd fw fv lot day on) (mE ne ef rr rm day)).1 = -1 then frA (rk (mK nf fl fk fd fw fv lot day on) (mE ne ef rr rm day)).2.2.2 CT pt else (-9223372036854775808)) ∧ ∃ mf', h' x = some (40, 0, .inr (8, mo mf')) ∧ (∀ j, j < 14 ∨ 26 < j → mf' j = mf j) ∧ mS0 G h' mf' ∧ mSh G h' mf' (nI lot) (rk (mK nf fl fk fd fw fv lot day on) (mE ne ef rr rm day)).1 (rk (mK nf fl fk fd fw fv lot day on) (mE ne ef rr rm day)).2.1 ∧ fF (inR [40, 56, 57, 58, 65, 66, 67]) h h')) ([.ref x, .int (nI lot), .long (lN day), .long (lN on), .int pt] : List Value).toArray s 0 0 (fA h sz)) (F0 m 80 ls []) := ih
        have hn2 : n < (rk (mK nf fl fk fd fw fv lot day on) (mE ne ef rr rm day)).2.1.length := by omega
        refine lv_iload hx hb d_MO_duty_80 (lv_at hl 3 rfl) ?_
        refine lv_aload_n hx hb d_MO_duty_82 rfl (lv_at hl 0 rfl) ?_
        refine f_get (C := "DutyRulesModel") (T := T_MO) (N := 40) hx hb (fun w q => hT w (s_MO w q)) hown hK hI g_x rfl 18 (by decide) (hT _ w_827) (fun _ q => q) (mo_get (by decide) v_18) d_MO_duty_83 ?_
        refine lv_icmp_ge (tgt := 137) hx hb d_MO_duty_86 (by decide) (fun c_825 => absurd c_825 (fun q => absurd ((n_le (by omega) (by omega)).mp q) (by omega))) (fun c_825 => ?_)
        refine lv_aload_n hx hb d_MO_duty_89 rfl (lv_at hl 0 rfl) ?_
        refine f_get (C := "DutyRulesModel") (T := T_MO) (N := 40) hx hb (fun w q => hT w (s_MO w q)) hown hK hI g_x rfl 24 (by decide) (hT _ w_833) (fun _ q => q) (mo_get (by decide) v_24) d_MO_duty_90 ?_
        refine lv_iload hx hb d_MO_duty_93 (lv_at hl 3 rfl) ?_
        refine lv_aload_n hx hb d_MO_duty_95 rfl (lv_at hl 0 rfl) ?_
        refine f_get (C := "DutyRulesModel") (T := T_MO) (N := 40) hx hb (fun w q => hT w (s_MO w q)) hown hK hI g_x rfl 15 (by decide) (hT _ w_824) (fun _ q => q) (mo_get (by decide) v_15) d_MO_duty_96 ?_
        refine lv_iload hx hb d_MO_duty_99 (lv_at hl 3 rfl) ?_
        refine f_ialdn (k := n) (v := (nI (sl n))) hx hb hI g_a15 (fT.ofK hK (t0 := 0) rfl) (by omega) (by omega) rfl d_MO_duty_101 ?_
        refine f_iastn (k := n) (f' := (fun i => nI (cpk sl tl (n + 1) i))) hx hb hI g_a24 (by decide) (fT.ofK hK (t0 := 0) rfl) (by omega) (by omega) (cpk_i sl tl n) d_MO_duty_102 (fun H locs hI => ?_)
        generalize eh_826 : fU h1 a24 (65, 0, .inl ((G.2.1 0), 5, .inl (fun i => nI (cpk sl tl (n + 1) i)))) = h_826 at hI
        have hX := hX.set (e := .inl ((G.2.1 0), 5, .inl (fun i => nI (cpk sl tl (n + 1) i)))) g_a24 (by decide); rw [eh_826] at hX
        have hF := hF.set (e := .inl ((G.2.1 0), 5, .inl (fun i => nI (cpk sl tl (n + 1) i)))) g_a24 (by decide); rw [eh_826] at hF
        have g_a15 : h_826 a15 = some (56, 0, .inl ((G.2.1 0), 5, .inl (fun i => nI (sl i)))) := (congrFun eh_826 a15).symm.trans (fU_keep g_a15 (f_neR g_a15 g_a24 (by decide)))
        have g_a16 : h_826 a16 = some (57, 0, .inl ((G.2.1 0), 5, .inl (fun i => nI (sr i)))) := (congrFun eh_826 a16).symm.trans (fU_keep g_a16 (f_neR g_a16 g_a24 (by decide)))
        have g_a17 : h_826 a17 = some (58, 0, .inl ((G.2.1 1), 5, .inr (.inl (fun i => lN (sc i))))) := (congrFun eh_826 a17).symm.trans (fU_keep g_a17 (f_neR g_a17 g_a24 (by decide)))
        have g_a25 : h_826 a25 = some (66, 0, .inl ((G.2.1 0), 5, .inl (fun i => nI (cpk sr tr n i)))) := (congrFun eh_826 a25).symm.trans (fU_keep g_a25 (f_neR g_a25 g_a24 (by decide)))
        have g_a26 : h_826 a26 = some (67, 0, .inl ((G.2.1 1), 5, .inr (.inl (fun i => lN (cpk sc tc n i))))) := (congrFun eh_826 a26).symm.trans (fU_keep g_a26 (f_neR g_a26 g_a24 (by decide)))
        have g_x : h_826 x = some (40, 0, .inr (8, mo mf_523)) := (congrFun eh_826 x).symm.trans (fU_keep g_x (f_neR g_x g_a24 (by decide)))
        have hW9 : fF (inR [65]) h1 h_826 := by rw [← eh_826]; exact fF.rf.set g_a24 (by decide)
        have g_a24 : h_826 a24 = some (65, 0, .inl ((G.2.1 0), 5, .inl (fun i => nI (cpk sl tl (n + 1) i)))) := (congrFun eh_826 a24).symm.trans (fU_self _ _ _)
        have hS0 := mS0.keep hS0 (fun _ _ _ => rfl) hW9 (by decide)
        refine lv_aload_n hx hb d_MO_duty_103 rfl (lv_at hl 0 rfl) ?_
        refine f_get (C := "DutyRulesModel") (T := T_MO) (N := 40) hx hb (fun w q => hT w (s_MO w q)) hown hK hI g_x rfl 25 (by decide) (hT _ w_834) (fun _ q => q) (mo_get (by decide) v_25) d_MO_duty_104 ?_
        refine lv_iload hx hb d_MO_duty_107 (lv_at hl 3 rfl) ?_
        refine lv_aload_n hx hb d_MO_duty_109 rfl (lv_at hl 0 rfl) ?_
        refine f_get (C := "DutyRulesModel") (T := T_MO) (N := 40) hx hb (fun w q => hT w (s_MO w q)) hown hK hI g_x rfl 16 (by decide) (hT _ w_825) (fun _ q => q) (mo_get (by decide) v_16) d_MO_duty_110 ?_
        refine lv_iload hx hb d_MO_duty_113 (lv_at hl 3 rfl) ?_
        refine f_ialdn (k := n) (v := (nI (sr n))) hx hb hI g_a16 (fT.ofK hK (t0 := 0) rfl) (by omega) (by omega) rfl d_MO_duty_115 ?_
        refine f_iastn (k := n) (f' := (fun i => nI (cpk sr tr (n + 1) i))) hx hb hI g_a25 (by decide) (fT.ofK hK (t0 := 0) rfl) (by omega) (by omega) (cpk_i sr tr n) d_MO_duty_116 (fun H locs hI => ?_)
        generalize eh_827 : fU h_826 a25 (66, 0, .inl ((G.2.1 0), 5, .inl (fun i => nI (cpk sr tr (n + 1) i)))) = h_827 at hI
        have hX := hX.set (e := .inl ((G.2.1 0), 5, .inl (fun i => nI (cpk sr tr (n + 1) i)))) g_a25 (by decide); rw [eh_827] at hX
        have hF := hF.set (e := .inl ((G.2.1 0), 5, .inl (fun i => nI (cpk sr tr (n + 1) i)))) g_a25 (by decide); rw [eh_827] at hF
        have g_a15 : h_827 a15 = some (56, 0, .inl ((G.2.1 0), 5, .inl (fun i => nI (sl i)))) := (congrFun eh_827 a15).symm.trans (fU_keep g_a15 (f_neR g_a15 g_a25 (by decide)))
        have g_a16 : h_827 a16 = some (57, 0, .inl ((G.2.1 0), 5, .inl (fun i => nI (sr i)))) := (congrFun eh_827 a16).symm.trans (fU_keep g_a16 (f_neR g_a16 g_a25 (by decide)))
        have g_a17 : h_827 a17 = some (58, 0, .inl ((G.2.1 1), 5, .inr (.inl (fun i => lN (sc i))))) := (congrFun eh_827 a17).symm.trans (fU_keep g_a17 (f_neR g_a17 g_a25 (by decide)))
        have g_a24 : h_827 a24 = some (65, 0, .inl ((G.2.1 0), 5, .inl (fun i => nI (cpk sl tl (n + 1) i)))) := (congrFun eh_827 a24).symm.trans (fU_keep g_a24 (f_neR g_a24 g_a25 (by decide)))
        have g_a26 : h_827 a26 = some (67, 0, .inl ((G.2.1 1), 5, .inr (.inl (fun i => lN (cpk sc tc n i))))) := (congrFun eh_827 a26).symm.trans (fU_keep g_a26 (f_neR g_a26 g_a25 (by decide)))
        have g_x : h_827 x = some (40, 0, .inr (8, mo mf_523)) := (congrFun eh_827 x).symm.trans (fU_keep g_x (f_neR g_x g_a25 (by decide)))
        have hW9 : fF (inR [66]) h_826 h_827 := by rw [← eh_827]; exact fF.rf.set g_a25 (by decide)
        have g_a25 : h_827 a25 = some (66, 0, .inl ((G.2.1 0), 5, .inl (fun i => nI (cpk sr tr (n + 1) i)))) := (congrFun eh_827 a25).symm.trans (fU_self _ _ _)
        have hS0 := mS0.keep hS0 (fun _ _ _ => rfl) hW9 (by decide)
        refine lv_aload_n hx hb d_MO_duty_117 rfl (lv_at hl 0 rfl) ?_
        refine f_get (C := "DutyRulesModel") (T := T_MO) (N := 40) hx hb (fun w q => hT w (s_MO w q)) hown hK hI g_x rfl 26 (by decide) (hT _ w_835) (fun _ q => q) (mo_get (by decide) v_26) d_MO_duty_118 ?_
        refine lv_iload hx hb d_MO_duty_121 (lv_at hl 3 rfl) ?_
        refine lv_aload_n hx hb d_MO_duty_123 rfl (lv_at hl 0 rfl) ?_
        refine f_get (C := "DutyRulesModel") (T := T_MO) (N := 40) hx hb (fun w q => hT w (s_MO w q)) hown hK hI g_x rfl 17 (by decide) (hT _ w_826) (fun _ q => q) (mo_get (by decide) v_17) d_MO_duty_124 ?_
        refine lv_iload hx hb d_MO_duty_127 (lv_at hl 3 rfl) ?_
        refine f_laldn (k := n) (v := (lN (sc n))) hx hb hI g_a17 (fT.ofK hK (t0 := 1) rfl) (by omega) (by omega) rfl d_MO_duty_129 ?_
        refine f_lastn (k := n) (f' := (fun i => lN (cpk sc tc (n + 1) i))) hx hb hI g_a26 (by decide) (fT.ofK hK (t0 := 1) rfl) (by omega) (by omega) (cpk_l sc tc n) d_MO_duty_130 (fun H locs hI => ?_)
        generalize eh_828 : fU h_827 a26 (67, 0, .inl ((G.2.1 1), 5, .inr (.inl (fun i => lN (cpk sc tc (n + 1) i))))) = h_828 at hI
        have hX := hX.set (e := .inl ((G.2.1 1), 5, .inr (.inl (fun i => lN (cpk sc tc (n + 1) i))))) g_a26 (by decide); rw [eh_828] at hX
        have hF := hF.set (e := .inl ((G.2.1 1), 5, .inr (.inl (fun i => lN (cpk sc tc (n + 1) i))))) g_a26 (by decide); rw [eh_828] at hF
        have g_a15 : h_828 a15 = some (56, 0, .inl ((G.2.1 0), 5, .inl (fun i => nI (sl i)))) := (congrFun eh_828 a15).symm.trans (fU_keep g_a15 (f_neR g_a15 g_a26 (by decide)))
        have g_a16 : h_828 a16 = some (57, 0, .inl ((G.2.1 0), 5, .inl (fun i => nI (sr i)))) := (congrFun eh_828 a16).symm.trans (fU_keep g_a16 (f_neR g_a16 g_a26 (by decide)))
        have g_a17 : h_828 a17 = some (58, 0, .inl ((G.2.1 1), 5, .inr (.inl (fun i => lN (sc i))))) := (congrFun eh_828 a17).symm.trans (fU_keep g_a17 (f_neR g_a17 g_a26 (by decide)))
        have g_a24 : h_828 a24 = some (65, 0, .inl ((G.2.1 0), 5, .inl (fun i => nI (cpk sl tl (n + 1) i)))) := (congrFun eh_828 a24).symm.trans (fU_keep g_a24 (f_neR g_a24 g_a26 (by decide)))
        have g_a25 : h_828 a25 = some (66, 0, .inl ((G.2.1 0), 5, .inl (fun i => nI (cpk sr tr (n + 1) i)))) := (congrFun eh_828 a25).symm.trans (fU_keep g_a25 (f_neR g_a25 g_a26 (by decide)))
        have g_x : h_828 x = some (40, 0, .inr (8, mo mf_523)) := (congrFun eh_828 x).symm.trans (fU_keep g_x (f_neR g_x g_a26 (by decide)))
        have hW9 : fF (inR [67]) h_827 h_828 := by rw [← eh_828]; exact fF.rf.set g_a26 (by decide)
        have g_a26 : h_828 a26 = some (67, 0, .inl ((G.2.1 1), 5, .inr (.inl (fun i => lN (cpk sc tc (n + 1) i))))) := (congrFun eh_828 a26).symm.trans (fU_self _ _ _)
        have hS0 := mS0.keep hS0 (fun _ _ _ => rfl) hW9 (by decide)
        refine lv_iinc (v := nI (n + 1)) (lv' := [(8, .int (nI (n + 1))), (0, .ref x), (6, .int pt), (7, .int 0)]) hx hb d_MO_duty_131 hl (k := 3) rfl (f_inc1 _) (by decide) rfl (fun ls hl => ?_)
        refine lv_goto (tgt := 80) hx hb d_MO_duty_134 (by decide) ?_
        exact ih (n + 1) (by omega) _ _ _ g_x g_a15 g_a16 g_a17 g_a24 g_a25 g_a26 hS0 hF hX hI ls (lv_sub hl [1, 2, 3, 0] rfl)
    exact LOOP (rk (mK nf fl fk fd fw fv lot day on) (mE ne ef rr rm day)).2.1.length 0 (by omega) _ _ _ g_x g_a15 g_a16 g_a17 (by rw [cpk_0]; exact g_a24) (by rw [cpk_0]; exact g_a25) (by rw [cpk_0]; exact g_a26) hS0 hF hX hI ls (lv_sub hl [2, 6, 1, 0] rfl)
