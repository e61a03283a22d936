theorem gm_MO_row : gM y_MO_row b_MO_row 3 (some .long) 2 := ⟨w_1086, w_10, ⟨by decide, by decide⟩, by decide +kernel⟩
set_option maxHeartbeats 4000000 in
set_option maxRecDepth 100000 in
/-- MO_row  -/
theorem c_MO_row_no (l : Launch) (G : gG) (h : fH) (sz : Nat) (x : Nat) (k wh : Int32) (mf : Nat → Value) (g_x : h x = some (40, 0, .inr (8, mo mf))) (th du wr : Nat → Nat) (rn : Nat) (rl : Nat → Nat) (rD rM : Nat → Int64) (hRt : mRt G h mf th du wr rn rl rD rM) (hbad : k < 0 ∨ ¬ k < nI rn) : cM l y_MO_row b_MO_row 3 (some .long) { frames := 0, cells := 0, slots := 0, locals := 0 } G [.ref x, .int k, .int wh] h sz (cQl G h sz (fun r h' => r = -1 ∧ h' = h)) := by
  refine f_start (by decide) (Nat.le_of_ble_eq_true rfl) ?_
  intro p e s m below meth c ls C hr hsz hI hl
  obtain ⟨hx, hb, hml, hown, hnm, hlk, hT, hG, hZ⟩ := id C
  have hK := hG.1
  have hX : fX h sz h := fX.rf
  have hl : lv_has ls 3 [(0, .ref x), (1, .int k), (2, .int wh)] := hl
  obtain ⟨a27, a28, a29, a31, a32, a33, ⟨v_27, v_28, v_29, v_30, v_31, v_32, v_33⟩, ⟨g_a27, g_a28, g_a29, g_a31, g_a32, g_a33⟩, brn, bth, bdu, bwr, brl⟩ := hRt
  refine lv_iload_n hx hb d_MO_row_0 rfl (lv_at hl 1 rfl) ?_
  refine lv_if_lt (tgt := 12) hx hb d_MO_row_1 (by decide) (fun c_1 => ?_) (fun c_1 => ?_)
  · skip
    refine lv_ldc2 (v := (-1)) hx hb hown (hT _ w_1069) d_MO_row_12 ?_
    exact f_lret C hr hI ⟨rfl, rfl⟩ hX (Nat.le_refl _) (Nat.le_refl _) d_MO_row_15
  · skip
    refine lv_iload_n hx hb d_MO_row_4 rfl (lv_at hl 1 rfl) ?_
    refine lv_aload_n hx hb d_MO_row_5 rfl (lv_at hl 0 rfl) ?_
    refine f_get (C := "DutyRulesModel") (T := T_MO) (N := 40) hx hb (fun w q => hT w (s_MO w q)) hown hK hI g_x rfl 30 (by decide) (hT _ w_839) (fun _ q => q) (mo_get (by decide) v_30) d_MO_row_6 ?_
    refine lv_icmp_lt (tgt := 16) hx hb d_MO_row_9 (by decide) (fun c_2 => ?_) (fun c_2 => ?_)
    · skip
      exfalso
      rcases hbad with q | q
      · exact c_1 q
      · exact q c_2
    · skip
      refine lv_ldc2 (v := (-1)) hx hb hown (hT _ w_1069) d_MO_row_12 ?_
      exact f_lret C hr hI ⟨rfl, rfl⟩ hX (Nat.le_refl _) (Nat.le_refl _) d_MO_row_15
set_option maxHeartbeats 4000000 in
set_option maxRecDepth 100000 in
/-- MO_row  -/
theorem c_MO_row_ok (l : Launch) (G : gG) (h : fH) (sz : Nat) (x j : Nat) (wh : Int32) (mf : Nat → Value) (g_x : h x = some (40, 0, .inr (8, mo mf))) (th du wr : Nat → Nat) (rn : Nat) (rl : Nat → Nat) (rD rM : Nat → Int64) (hRt : mRt G h mf th du wr rn rl rD rM) (hj : j < rn) : cM l y_MO_row b_MO_row 3 (some .long) { frames := 0, cells := 0, slots := 0, locals := 0 } G [.ref x, .int (nI j), .int wh] h sz (cQl G h sz (fun r h' => r = (if wh = 0 then lN (rl j) else (if wh = 1 then rD j else (if wh = 2 then rM j else -1))) ∧ h' = h)) := by
  refine f_start (by decide) (Nat.le_of_ble_eq_true rfl) ?_
  intro p e s m below meth c ls C hr hsz hI hl
  obtain ⟨hx, hb, hml, hown, hnm, hlk, hT, hG, hZ⟩ := id C
  have hK := hG.1
  have hX : fX h sz h := fX.rf
  have hl : lv_has ls 3 [(0, .ref x), (1, .int (nI j)), (2, .int wh)] := hl
  obtain ⟨a27, a28, a29, a31, a32, a33, ⟨v_27, v_28, v_29, v_30, v_31, v_32, v_33⟩, ⟨g_a27, g_a28, g_a29, g_a31, g_a32, g_a33⟩, brn, bth, bdu, bwr, brl⟩ := hRt
  have brj := brl j
  refine lv_iload_n hx hb d_MO_row_0 rfl (lv_at hl 1 rfl) ?_
  refine lv_if_lt (tgt := 12) hx hb d_MO_row_1 (by decide) (fun c_1 => absurd c_1 (nI_pos (by omega))) (fun c_1 => ?_)
  refine lv_iload_n hx hb d_MO_row_4 rfl (lv_at hl 1 rfl) ?_
  refine lv_aload_n hx hb d_MO_row_5 rfl (lv_at hl 0 rfl) ?_
  refine f_get (C := "DutyRulesModel") (T := T_MO) (N := 40) hx hb (fun w q => hT w (s_MO w q)) hown hK hI g_x rfl 30 (by decide) (hT _ w_839) (fun _ q => q) (mo_get (by decide) v_30) d_MO_row_6 ?_
  refine lv_icmp_lt (tgt := 16) hx hb d_MO_row_9 (by decide) (fun c_2 => ?_) (fun c_2 => absurd ((n_lt (by omega) (by omega)).mpr hj) c_2)
  refine lv_iload_n hx hb d_MO_row_16 rfl (lv_at hl 2 rfl) ?_
  refine lv_if_ne (tgt := 30) hx hb d_MO_row_17 (by decide) (fun c_3 => ?_) (fun c_3 => ?_)
  · skip
    refine lv_iload_n hx hb d_MO_row_30 rfl (lv_at hl 2 rfl) ?_
    refine lv_iconst (v := 1) hx hb d_MO_row_31 (by decide) ?_
    refine lv_icmp_ne (tgt := 44) hx hb d_MO_row_32 (by decide) (fun c_4 => ?_) (fun c_4 => ?_)
    · skip
      refine lv_iload_n hx hb d_MO_row_44 rfl (lv_at hl 2 rfl) ?_
      refine lv_iconst (v := 2) hx hb d_MO_row_45 (by decide) ?_
      refine lv_icmp_ne (tgt := 58) hx hb d_MO_row_46 (by decide) (fun c_5 => ?_) (fun c_5 => ?_)
      · skip
        refine lv_ldc2 (v := (-1)) hx hb hown (hT _ w_1069) d_MO_row_58 ?_
        exact f_lret C hr hI ⟨by rw [if_neg c_3, if_neg c_4, if_neg c_5], rfl⟩ hX (Nat.le_refl _) (Nat.le_refl _) d_MO_row_61
      · skip
        refine lv_aload_n hx hb d_MO_row_49 rfl (lv_at hl 0 rfl) ?_
        refine f_get (C := "DutyRulesModel") (T := T_MO) (N := 40) hx hb (fun w q => hT w (s_MO w q)) hown hK hI g_x rfl 33 (by decide) (hT _ w_842) (fun _ q => q) (mo_get (by decide) v_33) d_MO_row_50 ?_
        refine lv_iload_n hx hb d_MO_row_53 rfl (lv_at hl 1 rfl) ?_
        refine f_laldn (k := j) (v := (rM j)) hx hb hI g_a33 (fT.ofK hK (t0 := 1) rfl) (by omega) (by omega) rfl d_MO_row_54 ?_
        refine lv_goto (tgt := 61) hx hb d_MO_row_55 (by decide) ?_
        exact f_lret C hr hI ⟨by rw [if_neg c_3, if_neg c_4, if_pos c_5], rfl⟩ hX (Nat.le_refl _) (Nat.le_refl _) d_MO_row_61
    · skip
      refine lv_aload_n hx hb d_MO_row_35 rfl (lv_at hl 0 rfl) ?_
      refine f_get (C := "DutyRulesModel") (T := T_MO) (N := 40) hx hb (fun w q => hT w (s_MO w q)) hown hK hI g_x rfl 32 (by decide) (hT _ w_841) (fun _ q => q) (mo_get (by decide) v_32) d_MO_row_36 ?_
      refine lv_iload_n hx hb d_MO_row_39 rfl (lv_at hl 1 rfl) ?_
      refine f_laldn (k := j) (v := (rD j)) hx hb hI g_a32 (fT.ofK hK (t0 := 1) rfl) (by omega) (by omega) rfl d_MO_row_40 ?_
      refine lv_goto (tgt := 61) hx hb d_MO_row_41 (by decide) ?_
      exact f_lret C hr hI ⟨by rw [if_neg c_3, if_pos c_4], rfl⟩ hX (Nat.le_refl _) (Nat.le_refl _) d_MO_row_61
  · skip
    refine lv_aload_n hx hb d_MO_row_20 rfl (lv_at hl 0 rfl) ?_
    refine f_get (C := "DutyRulesModel") (T := T_MO) (N := 40) hx hb (fun w q => hT w (s_MO w q)) hown hK hI g_x rfl 31 (by decide) (hT _ w_840) (fun _ q => q) (mo_get (by decide) v_31) d_MO_row_21 ?_
    refine lv_iload_n hx hb d_MO_row_24 rfl (lv_at hl 1 rfl) ?_
    refine f_ialdn (k := j) (v := (nI (rl j))) hx hb hI g_a31 (fT.ofK hK (t0 := 0) rfl) (by omega) (by omega) rfl d_MO_row_25 ?_
    refine lv_i2l (v := lN (rl j)) hx hb d_MO_row_26 (n_i2l (by have := brl j; omega)) ?_
    refine lv_goto (tgt := 61) hx hb d_MO_row_27 (by decide) ?_
    exact f_lret C hr hI ⟨by rw [if_pos c_3], rfl⟩ hX (Nat.le_refl _) (Nat.le_refl _) d_MO_row_61
theorem gm_MO_difference : gM y_MO_difference b_MO_difference 8 (some .long) 2 := ⟨w_1090, w_10, ⟨by decide, by decide⟩, by decide +kernel⟩
set_option maxHeartbeats 4000000 in
set_option maxRecDepth 100000 in
/-- MO_difference  -/
theorem c_MO_difference_mo (l : Launch) (G : gG) (h : fH) (sz : Nat) (x : Nat) (mo1 : Int32) (on : Int64) (hbad : mo1 < 0 ∨ 3001 ≤ mo1) : cM l y_MO_difference b_MO_difference 8 (some .long) { frames := 2, cells := 0, slots := 0, locals := 73 } G [.ref x, .int mo1, .long on] h sz (cQl G h sz (fun r h' => r = 0 ∧ h' = h)) := by
  refine f_start (by decide) (Nat.le_of_ble_eq_true rfl) ?_
  intro p e s m below meth c ls C hr hsz hI hl
  obtain ⟨hx, hb, hml, hown, hnm, hlk, hT, hG, hZ⟩ := id C
  have hK := hG.1
  have hX : fX h sz h := fX.rf
  have hl : lv_has ls 8 [(0, .ref x), (1, .int mo1), (2, .long on)] := hl
  refine lv_iload_n hx hb d_MO_difference_0 rfl (lv_at hl 1 rfl) ?_
  refine f_calli hI (f_runS C hI (c_MO_isMonth l G h _ mo1) gm_MO_isMonth w_1067 w_1066 rfl hl.1 rfl (Nat.le_of_ble_eq_true rfl) ⟨Nat.le_of_ble_eq_true rfl, Nat.le_of_ble_eq_true rfl⟩ d_MO_difference_1 ⟨Nat.le_of_ble_eq_true rfl, Nat.le_of_ble_eq_true rfl⟩) (fun r_1 h8 H9 locs hp9 hX9 hz9 hI => ?_)
  obtain ⟨rfl, e9⟩ := hp9
  rw [e9] at hI
  clear hX9 e9
  rw [rng_bad hbad]
  refine lv_if_eq (tgt := 23) hx hb d_MO_difference_4 (by decide) (fun c_2 => ?_) (fun c_2 => absurd (by decide) c_2)
  refine lv_lconst (v := 0) hx hb d_MO_difference_23 (by decide) ?_
  exact f_lret C hr hI ⟨rfl, rfl⟩ hX (Nat.le_refl _) (Nat.le_refl _) d_MO_difference_24
set_option maxHeartbeats 4000000 in
set_option maxRecDepth 100000 in
/-- MO_difference  -/
theorem c_MO_difference_no (l : Launch) (G : gG) (h : fH) (sz : Nat) (x mn : Nat) (on : Int64) (mf : Nat → Value) (g_x : h x = some (40, 0, .inr (8, mo mf))) (th du wr : Nat → Nat) (rn : Nat) (rl : Nat → Nat) (rD rM : Nat → Int64) (hRt : mRt G h mf th du wr rn rl rD rM) (bm : mn ≤ 3000) (hbad : wr mn = 0 ∨ (on < 0 ∨ 100000 < on)) : cM l y_MO_difference b_MO_difference 8 (some .long) { frames := 2, cells := 0, slots := 0, locals := 73 } G [.ref x, .int (nI mn), .long on] h sz (cQl G h sz (fun r h' => r = 0 ∧ h' = h)) := by
  refine f_start (by decide) (Nat.le_of_ble_eq_true rfl) ?_
  intro p e s m below meth c ls C hr hsz hI hl
  obtain ⟨hx, hb, hml, hown, hnm, hlk, hT, hG, hZ⟩ := id C
  have hK := hG.1
  have hX : fX h sz h := fX.rf
  have hl : lv_has ls 8 [(0, .ref x), (1, .int (nI mn)), (2, .long on)] := hl
  obtain ⟨a27, a28, a29, a31, a32, a33, ⟨v_27, v_28, v_29, v_30, v_31, v_32, v_33⟩, ⟨g_a27, g_a28, g_a29, g_a31, g_a32, g_a33⟩, brn, bth, bdu, bwr, brl⟩ := hRt
  have bw := bwr mn
  refine lv_iload_n hx hb d_MO_difference_0 rfl (lv_at hl 1 rfl) ?_
  refine f_calli hI (f_runS C hI (c_MO_isMonth l G h _ (nI mn)) gm_MO_isMonth w_1067 w_1066 rfl hl.1 rfl (Nat.le_of_ble_eq_true rfl) ⟨Nat.le_of_ble_eq_true rfl, Nat.le_of_ble_eq_true rfl⟩ d_MO_difference_1 ⟨Nat.le_of_ble_eq_true rfl, Nat.le_of_ble_eq_true rfl⟩) (fun r_1 h8 H9 locs hp9 hX9 hz9 hI => ?_)
  obtain ⟨rfl, e9⟩ := hp9
  rw [e9] at hI
  clear hX9 e9
  rw [rng_ok (a := nI mn) (N := 3001) (nI_pos (by omega)) (fun q => absurd ((n_le (a := 3001) (b := mn) (by omega) (by omega)).mp q) (by omega))]
  refine lv_if_eq (tgt := 23) hx hb d_MO_difference_4 (by decide) (fun c_2 => absurd c_2 (by decide)) (fun c_2 => ?_)
  refine lv_aload_n hx hb d_MO_difference_7 rfl (lv_at hl 0 rfl) ?_
  refine f_get (C := "DutyRulesModel") (T := T_MO) (N := 40) hx hb (fun w q => hT w (s_MO w q)) hown hK hI g_x rfl 29 (by decide) (hT _ w_838) (fun _ q => q) (mo_get (by decide) v_29) d_MO_difference_8 ?_
  refine lv_iload_n hx hb d_MO_difference_11 rfl (lv_at hl 1 rfl) ?_
  refine f_zaldn (k := mn) (v := (nI (wr mn))) hx hb hI g_a29 (fT.ofK hK (t0 := 2) rfl) (by omega) (by omega) rfl d_MO_difference_12 ?_
  refine lv_if_eq (tgt := 23) hx hb d_MO_difference_13 (by decide) (fun c_3 => ?_) (fun c_3 => ?_)
  · have c_3 : (wr mn) = 0 := (n_eq (a := (wr mn)) (b := 0) (by have := bwr mn; omega) (by omega)).mp c_3
    refine lv_lconst (v := 0) hx hb d_MO_difference_23 (by decide) ?_
    exact f_lret C hr hI ⟨rfl, rfl⟩ hX (Nat.le_refl _) (Nat.le_refl _) d_MO_difference_24
  · have c_3 : ¬ (wr mn) = 0 := fun q => c_3 ((n_eq (a := (wr mn)) (b := 0) (by have := bwr mn; omega) (by omega)).mpr q)
    refine lv_lload_n hx hb d_MO_difference_16 rfl (lv_at hl 2 rfl) ?_
    refine f_calli hI (f_runS C hI (c_MO_isDay l G h _ on) gm_MO_isDay w_999 w_998 rfl hl.1 rfl (Nat.le_of_ble_eq_true rfl) ⟨Nat.le_of_ble_eq_true rfl, Nat.le_of_ble_eq_true rfl⟩ d_MO_difference_17 ⟨Nat.le_of_ble_eq_true rfl, Nat.le_of_ble_eq_true rfl⟩) (fun r_4 h8 H9 locs hp9 hX9 hz9 hI => ?_)
    obtain ⟨rfl, e9⟩ := hp9
    rw [e9] at hI
    clear hX9 e9
    refine lv_if_ne (tgt := 25) hx hb d_MO_difference_20 (by decide) (fun c_5 => ?_) (fun c_5 => ?_)
    · skip
      exfalso
      rcases hbad with q | q
      · exact c_3 q
      · exact c_5 (day_bad q)
    · skip
      refine lv_lconst (v := 0) hx hb d_MO_difference_23 (by decide) ?_
      exact f_lret C hr hI ⟨rfl, rfl⟩ hX (Nat.le_refl _) (Nat.le_refl _) d_MO_difference_24
set_option maxHeartbeats 4000000 in
set_option maxRecDepth 100000 in
/-- MO_difference  -/
theorem c_MO_difference_ok (l : Launch) (G : gG) (h : fH) (sz : Nat) (x mn o9 : Nat) (mf : Nat → Value) (g_x : h x = some (40, 0, .inr (8, mo mf))) (nf : Nat) (fl fk fd fw fv : Nat → Nat) (hFc : mFc G h mf nf fl fk fd fw fv) (ne : Nat) (ef rr rm : Nat → Nat) (hEd : mEd G h mf ne ef rr rm) (hS0 : mS0 G h mf) (th du wr : Nat → Nat) (rn : Nat) (rl : Nat → Nat) (rD rM : Nat → Int64) (hRt : mRt G h mf th du wr rn rl rD rM) (bm : mn ≤ 3000) (hwr : wr mn = 1) (bo : o9 ≤ 100000) : cM l y_MO_difference b_MO_difference 8 (some .long) { frames := 2, cells := 0, slots := 0, locals := 73 } G [.ref x, .int (nI mn), .long (lN o9)] h sz (cQl G h sz (fun r h' => r = sumL (fun l => if th (mn * 30 + l) = 1 then lN ((rk (mK nf fl fk fd fw fv l (30 * mn + 29) o9) (mE ne ef rr rm (30 * mn + 29))).2.2.2 / CT) - lN (du (mn * 30 + l)) else 0) 30 ∧ ∃ mf', h' x = some (40, 0, .inr (8, mo mf')) ∧ (∀ j, j < 14 ∨ 20 < j → mf' j = mf j) ∧ mS0 G h' mf' ∧ fF (inR [40, 56, 57, 58]) h h')) := by
  refine f_start (by decide) (Nat.le_of_ble_eq_true rfl) ?_
  intro p e s m below meth c ls C hr hsz hI hl
  obtain ⟨hx, hb, hml, hown, hnm, hlk, hT, hG, hZ⟩ := id C
  have hK := hG.1
  have hX : fX h sz h := fX.rf
  have hl : lv_has ls 8 [(0, .ref x), (1, .int (nI mn)), (2, .long (lN o9))] := hl
  obtain ⟨_, _, _, _, _, bne, brm, bef, brr, brk⟩ := id hEd
  obtain ⟨_, _, _, _, _, _, _, bnf, bfl, bfk, bfd, bfw, bfv0⟩ := id hFc
  obtain ⟨_, _, _, _, _, _, _, _, brn, bth, bdu, bwr, brl⟩ := id hRt
  have hz0 := hI.2.2.2.1
  have LOOP : ∀ (k n : Nat), n + k = 30 → ∀ (h1 : fH) (mf1 : Nat → Value) (H : Heap) (locs : List Loc), h1 x = some (40, 0, .inr (8, mo mf1)) → mFc G h1 mf1 nf fl fk fd fw fv → mEd G h1 mf1 ne ef rr rm → mRt G h1 mf1 th du wr rn rl rD rM → mS0 G h1 mf1 → (∀ j, j < 14 ∨ 20 < j → mf1 j = mf j) → fF (inR [40, 56, 57, 58]) h h1 → fX h sz h1 → fI G.1 g_cl (fA h sz) s.heap h1 H locs → ∀ ls : Array Slot, lv_has ls 8 [(0, .ref x), (1, .int (nI mn)), (2, .long (lN o9)), (4, .long (sumL (fun l => if th (mn * 30 + l) = 1 then lN ((rk (mK nf fl fk fd fw fv l (30 * mn + 29) o9) (mE ne ef rr rm (30 * mn + 29))).2.2.2 / CT) - lN (du (mn * 30 + l)) else 0) n)), (6, .int (nI n))] → W p l e { frames := 2, cells := 0, slots := 0, locals := 73 } s m ([.ref x, .int (nI mn), .long (lN o9)] : List Value).toArray below meth c H locs 0 0 (MQ below (cQl G h sz (fun r h' => r = sumL (fun l => if th (mn * 30 + l) = 1 then lN ((rk (mK nf fl fk fd fw fv l (30 * mn + 29) o9) (mE ne ef rr rm (30 * mn + 29))).2.2.2 / CT) - lN (du (mn * 30 + l)) else 0) 30 ∧ ∃ mf', h' x = some (40, 0, .inr (8, mo mf')) ∧ (∀ j, j < 14 ∨ 20 < j → mf' j = mf j) ∧ mS0 G h' mf' ∧ fF (inR [40, 56, 57, 58]) h h')) ([.ref x, .int (nI mn), .long (lN o9)] : List Value).toArray s 0 0 (fA h sz)) (F0 m 31 ls []) := by
    intro k
    induction k with
    | zero =>
      intro n hn h1 mf1 H locs g_x hFc hEd hRt hS0 hm1 hF hX hI ls hl
      have hn2 : 30 = n := by omega
      subst hn2
      refine lv_iload hx hb d_MO_difference_31 (lv_at hl 4 rfl) ?_
      refine lv_bipush (v := 30) hx hb d_MO_difference_33 (by decide) ?_
      refine lv_icmp_ge (tgt := 108) hx hb d_MO_difference_35 (by decide) (fun c_1 => ?_) (fun c_1 => absurd (by decide) c_1)
      refine lv_lload hx hb d_MO_difference_108 (lv_at hl 3 rfl) ?_
      exact f_lret C hr hI ⟨rfl, mf1, g_x, hm1, hS0, hF⟩ hX (Nat.le_refl _) (Nat.le_refl _) d_MO_difference_110
    | succ k ih =>
      intro n hn h1 mf1 H locs g_x hFc hEd hRt hS0 hm1 hF hX hI ls hl
      have ih : ∀ n : Nat, n + k = 30 → ∀ (h1 : fH) (mf1 : Nat → Value) (H : Heap) (locs : List Loc), h1 x = some (40, 0, .inr (8, mo mf1)) → mFc G h1 mf1 nf fl fk fd fw fv → mEd G h1 mf1 ne ef rr rm → mRt G h1 mf1 th du wr rn rl rD rM → mS0 G h1 mf1 → (∀ j, j < 14 ∨ 20 < j → mf1 j = mf j) → fF (inR [40, 56, 57, 58]) h h1 → fX h sz h1 → fI G.1 g_cl (fA h sz) s.heap h1 H locs → ∀ ls : Array Slot, lv_has ls 8 [(0, .ref x), (1, .int (nI mn)), (2, .long (lN o9)), (4, .long (sumL (fun l => if th (mn * 30 + l) = 1 then lN ((rk (mK nf fl fk fd fw fv l (30 * mn + 29) o9) (mE ne ef rr rm (30 * mn + 29))).2.2.2 / CT) - lN (du (mn * 30 + l)) else 0) n)), (6, .int (nI n))] → W p l e { frames := 2, cells := 0, slots := 0, locals := 73 } s m ([.ref x, .int (nI mn), .long (lN o9)] : List Value).toArray below meth c H locs 0 0 (MQ below (cQl G h sz (fun r h' => r = sumL (fun l => if th (mn * 30 + l) = 1 then lN ((rk (mK nf fl fk fd fw fv l (30 * mn + 29) o9) (mE ne ef rr rm (30 * mn + 29))).2.2.2 / CT) - lN (du (mn * 30 + l)) else 0) 30 ∧ ∃ mf', h' x = some (40, 0, .inr (8, mo mf')) ∧ (∀ j, j < 14 ∨ 20 < j → mf' j = mf j) ∧ mS0 G h' mf' ∧ fF (inR [40, 56, 57, 58]) h h')) ([.ref x, .int (nI mn), .long (lN o9)] : List Value).toArray s 0 0 (fA h sz)) (F0 m 31 ls []) := ih
      have hn2 : n < 30 := by omega
      obtain ⟨_, _, _, _, _, _, _, hSt⟩ := id hS0
      have hz7 := hI.2.2.2.1
      obtain ⟨a27, a28, a29, a31, a32, a33, ⟨v_27, v_28, v_29, v_30, v_31, v_32, v_33⟩, ⟨g_a27, g_a28, g_a29, g_a31, g_a32, g_a33⟩, brn, bth, bdu, bwr, brl⟩ := id hRt
      refine lv_iload hx hb d_MO_difference_31 (lv_at hl 4 rfl) ?_
      refine lv_bipush (v := 30) hx hb d_MO_difference_33 (by decide) ?_
      refine lv_icmp_ge (tgt := 108) hx hb d_MO_difference_35 (by decide) (fun c_2 => absurd c_2 (fun q => absurd ((n_le (a := 30) (b := n) (by omega) (by omega)).mp q) (by omega))) (fun c_2 => ?_)
      refine lv_aload_n hx hb d_MO_difference_38 rfl (lv_at hl 0 rfl) ?_
      refine f_get (C := "DutyRulesModel") (T := T_MO) (N := 40) hx hb (fun w q => hT w (s_MO w q)) hown hK hI g_x rfl 27 (by decide) (hT _ w_836) (fun _ q => q) (mo_get (by decide) v_27) d_MO_difference_39 ?_
      refine lv_iload_n hx hb d_MO_difference_42 rfl (lv_at hl 1 rfl) ?_
      refine lv_bipush (v := 30) hx hb d_MO_difference_43 (by decide) ?_
      refine lv_imul hx hb d_MO_difference_45 ?_
      refine f_asi (pk_mul mn 30) ?_
      refine lv_iload hx hb d_MO_difference_46 (lv_at hl 4 rfl) ?_
      refine lv_iadd hx hb d_MO_difference_48 ?_
      refine f_asi (nI_add (mn * 30) n) ?_
      refine f_ialdn (k := ((mn * 30) + n)) (v := (nI (th ((mn * 30) + n)))) hx hb hI g_a27 (fT.ofK hK (t0 := 0) rfl) (by omega) (by omega) rfl d_MO_difference_49 ?_
      refine lv_iconst (v := 1) hx hb d_MO_difference_50 (by decide) ?_
      refine lv_icmp_ne (tgt := 102) hx hb d_MO_difference_51 (by decide) (fun c_3 => ?_) (fun c_3 => ?_)
      · have c_3 : ¬ (th ((mn * 30) + n)) = 1 := fun q => c_3 ((n_eq (a := (th ((mn * 30) + n))) (b := 1) (by have := bth ((mn * 30) + n); omega) (by omega)).mpr q)
        refine lv_iinc (v := nI (n + 1)) (lv' := [(6, .int (nI (n + 1))), (0, .ref x), (1, .int (nI mn)), (2, .long (lN o9)), (4, .long (sumL (fun l => if th (mn * 30 + l) = 1 then lN ((rk (mK nf fl fk fd fw fv l (30 * mn + 29) o9) (mE ne ef rr rm (30 * mn + 29))).2.2.2 / CT) - lN (du (mn * 30 + l)) else 0) n))]) hx hb d_MO_difference_102 hl (k := 4) rfl (f_inc1 _) (by decide) rfl (fun ls hl => ?_)
        refine lv_goto (tgt := 31) hx hb d_MO_difference_105 (by decide) ?_
        refine ih (n + 1) (by omega) _ mf1 _ _ g_x hFc hEd hRt hS0 hm1 hF hX hI ls ?_
        rw [sumL_z (f := (fun l => if th (mn * 30 + l) = 1 then lN ((rk (mK nf fl fk fd fw fv l (30 * mn + 29) o9) (mE ne ef rr rm (30 * mn + 29))).2.2.2 / CT) - lN (du (mn * 30 + l)) else 0)) (n := n) (if_neg c_3)]
        exact lv_sub hl [1, 2, 3, 4, 0] rfl
      · have c_3 : (th ((mn * 30) + n)) = 1 := (n_eq (a := (th ((mn * 30) + n))) (b := 1) (by have := bth ((mn * 30) + n); omega) (by omega)).mp c_3
        refine lv_aload_n hx hb d_MO_difference_54 rfl (lv_at hl 0 rfl) ?_
        refine lv_iload hx hb d_MO_difference_55 (lv_at hl 4 rfl) ?_
        refine lv_iload_n hx hb d_MO_difference_57 rfl (lv_at hl 1 rfl) ?_
        refine f_calll hI (f_runS C hI (c_MO_lastOf l G h1 _ (nI mn)) gm_MO_lastOf w_1071 w_1070 rfl hl.1 rfl (Nat.le_of_ble_eq_true rfl) ⟨Nat.le_of_ble_eq_true rfl, Nat.le_of_ble_eq_true rfl⟩ d_MO_difference_58 ⟨Nat.le_of_ble_eq_true rfl, Nat.le_of_ble_eq_true rfl⟩) (fun r_4 h8 H9 locs hp9 hX9 hz9 hI => ?_)
        obtain ⟨rfl, e9⟩ := hp9
        rw [e9] at hI
        clear hX9 e9
        refine f_asl (lastOf_n (m := mn) (by omega)) ?_
        refine lv_lload_n hx hb d_MO_difference_61 rfl (lv_at hl 2 rfl) ?_
        have hz8 := hI.2.2.2.1
        refine f_calli hI (f_runV C hI (c_MO_reckon l G h1 _ x n (30 * mn + 29) o9 mf1 g_x nf fl fk fd fw fv hFc ne ef rr rm hEd _ _ _ _ _ _ _ hSt hn2 (by omega) (by omega)) gm_MO_reckon w_1020 p_MO_reckon w_1018 g_x rfl rfl rfl hl.1 rfl (Nat.le_of_ble_eq_true rfl) ⟨Nat.le_of_ble_eq_true rfl, Nat.le_of_ble_eq_true rfl⟩ d_MO_difference_62 ⟨Nat.le_of_ble_eq_true rfl, Nat.le_of_ble_eq_true rfl⟩) (fun r_5 h9 H9 locs hp9 hX9 hz9 hI => ?_)
        obtain ⟨rfl, mf_6, g_x, hm9, hSd, hF9⟩ := hp9
        have hFc := hFc.keep (fun j h1 h2 => hm9 j (Or.inl (Nat.lt_of_le_of_lt h2 (by decide)))) hF9 (by decide)
        have hEd := hEd.keep (fun j h1 h2 => hm9 j (Or.inl (Nat.lt_of_le_of_lt h2 (by decide)))) hF9 (by decide)
        have hRt := hRt.keep (fun j h1 h2 => hm9 j (Or.inr (Nat.lt_of_lt_of_le (by decide) h1))) hF9 (by decide)
        have hm1 : ∀ j, j < 14 ∨ 20 < j → mf_6 j = mf j := fun j hj => (hm9 j hj).trans (hm1 j hj)
        have hF := hF.tr (hF9.mono (fun r o q => q))
        have hX := fX.tr (by omega) hX hX9
        have hbd : (rk (mK nf fl fk fd fw fv n (30 * mn + 29) o9) (mE ne ef rr rm (30 * mn + 29))).2.2.2 ≤ 2100000000000000000 ∧ (rk (mK nf fl fk fd fw fv n (30 * mn + 29) o9) (mE ne ef rr rm (30 * mn + 29))).2.2.1 ≤ 100000000 ∧ (rk (mK nf fl fk fd fw fv n (30 * mn + 29) o9) (mE ne ef rr rm (30 * mn + 29))).2.1.length ≤ 5 := rk_bd (mK_ok bnf bfv0) (mE_ok bne brk)
        by_cases hk1 : (rk (mK nf fl fk fd fw fv n (30 * mn + 29) o9) (mE ne ef rr rm (30 * mn + 29))).1 = -1
        · refine f_asi (if_pos hk1) ?_
          have hS0 := hSd.s0
          obtain ⟨a27, a28, a29, a31, a32, a33, ⟨v_27, v_28, v_29, v_30, v_31, v_32, v_33⟩, ⟨g_a27, g_a28, g_a29, g_a31, g_a32, g_a33⟩, brn, bth, bdu, bwr, brl⟩ := id hRt
          obtain ⟨sl, sr, sc, hSt, hq⟩ := hSd
          obtain ⟨a15, a16, a17, ⟨v_14, v_15, v_16, v_17, v_18, v_19, v_20⟩, ⟨g_a15, g_a16, g_a17⟩⟩ := id hSt
          refine lv_istore (lv' := [(7, .int 1), (0, .ref x), (1, .int (nI mn)), (2, .long (lN o9)), (4, .long (sumL (fun l => if th (mn * 30 + l) = 1 then lN ((rk (mK nf fl fk fd fw fv l (30 * mn + 29) o9) (mE ne ef rr rm (30 * mn + 29))).2.2.2 / CT) - lN (du (mn * 30 + l)) else 0) n)), (6, .int (nI n))]) hx hb d_MO_difference_65 hl (by decide) rfl (fun ls hl => ?_)
          refine lv_lload hx hb d_MO_difference_67 (lv_at hl 4 rfl) ?_
          refine lv_iload hx hb d_MO_difference_69 (lv_at hl 0 rfl) ?_
          refine lv_if_eq (tgt := 85) hx hb d_MO_difference_71 (by decide) (fun c_7 => absurd c_7 (by decide)) (fun c_7 => ?_)
          refine lv_aload_n hx hb d_MO_difference_74 rfl (lv_at hl 1 rfl) ?_
          refine f_get (C := "DutyRulesModel") (T := T_MO) (N := 40) hx hb (fun w q => hT w (s_MO w q)) hown hK hI g_x rfl 20 (by decide) (hT _ w_829) (fun _ q => q) (mo_get (by decide) v_20) d_MO_difference_75 ?_
          refine lv_ldc2 (v := 100000000000) hx hb hown (hT _ w_1042) d_MO_difference_78 ?_
          refine lv_ldiv hx hb d_MO_difference_81 (l_ne0 (a := 100000000000) (by omega) (by omega)) ?_
          refine f_asl (pk_lDiv (a := (rk (mK nf fl fk fd fw fv n (30 * mn + 29) o9) (mE ne ef rr rm (30 * mn + 29))).2.2.2) (b := 100000000000) (by omega) (by omega) (by omega)) ?_
          refine lv_goto (tgt := 86) hx hb d_MO_difference_82 (by decide) ?_
          refine lv_aload_n hx hb d_MO_difference_86 rfl (lv_at hl 1 rfl) ?_
          refine f_get (C := "DutyRulesModel") (T := T_MO) (N := 40) hx hb (fun w q => hT w (s_MO w q)) hown hK hI g_x rfl 28 (by decide) (hT _ w_837) (fun _ q => q) (mo_get (by decide) v_28) d_MO_difference_87 ?_
          refine lv_iload_n hx hb d_MO_difference_90 rfl (lv_at hl 2 rfl) ?_
          refine lv_bipush (v := 30) hx hb d_MO_difference_91 (by decide) ?_
          refine lv_imul hx hb d_MO_difference_93 ?_
          refine f_asi (pk_mul mn 30) ?_
          refine lv_iload hx hb d_MO_difference_94 (lv_at hl 5 rfl) ?_
          refine lv_iadd hx hb d_MO_difference_96 ?_
          refine f_asi (nI_add (mn * 30) n) ?_
          refine f_laldn (k := ((mn * 30) + n)) (v := (lN (du ((mn * 30) + n)))) hx hb hI g_a28 (fT.ofK hK (t0 := 1) rfl) (by omega) (by omega) rfl d_MO_difference_97 ?_
          refine lv_lsub hx hb d_MO_difference_98 ?_
          refine lv_ladd hx hb d_MO_difference_99 ?_
          refine lv_lstore (lv' := [(4, .long ((sumL (fun l => if th (mn * 30 + l) = 1 then lN ((rk (mK nf fl fk fd fw fv l (30 * mn + 29) o9) (mE ne ef rr rm (30 * mn + 29))).2.2.2 / CT) - lN (du (mn * 30 + l)) else 0) n) + ((lN ((rk (mK nf fl fk fd fw fv n (30 * mn + 29) o9) (mE ne ef rr rm (30 * mn + 29))).2.2.2 / 100000000000)) - (lN (du ((mn * 30) + n)))))), (7, .int 1), (0, .ref x), (1, .int (nI mn)), (2, .long (lN o9)), (6, .int (nI n))]) hx hb d_MO_difference_100 hl (by decide) rfl (fun ls hl => ?_)
          refine lv_iinc (v := nI (n + 1)) (lv' := [(6, .int (nI (n + 1))), (4, .long ((sumL (fun l => if th (mn * 30 + l) = 1 then lN ((rk (mK nf fl fk fd fw fv l (30 * mn + 29) o9) (mE ne ef rr rm (30 * mn + 29))).2.2.2 / CT) - lN (du (mn * 30 + l)) else 0) n) + ((lN ((rk (mK nf fl fk fd fw fv n (30 * mn + 29) o9) (mE ne ef rr rm (30 * mn + 29))).2.2.2 / 100000000000)) - (lN (du ((mn * 30) + n)))))), (7, .int 1), (0, .ref x), (1, .int (nI mn)), (2, .long (lN o9))]) hx hb d_MO_difference_102 hl (k := 5) rfl (f_inc1 _) (by decide) rfl (fun ls hl => ?_)
          refine lv_goto (tgt := 31) hx hb d_MO_difference_105 (by decide) ?_
          refine ih (n + 1) (by omega) _ mf_6 _ _ g_x hFc hEd hRt hS0 hm1 hF hX hI ls ?_
          rw [sumL_add (f := (fun l => if th (mn * 30 + l) = 1 then lN ((rk (mK nf fl fk fd fw fv l (30 * mn + 29) o9) (mE ne ef rr rm (30 * mn + 29))).2.2.2 / CT) - lN (du (mn * 30 + l)) else 0)) (n := n) (if_pos c_3)]
          exact lv_sub hl [3, 4, 5, 1, 0] rfl
        · refine f_asi (if_neg hk1) ?_
          have hd0 := rk_open hk1
          have hS0 := hSd.s0
          obtain ⟨a27, a28, a29, a31, a32, a33, ⟨v_27, v_28, v_29, v_30, v_31, v_32, v_33⟩, ⟨g_a27, g_a28, g_a29, g_a31, g_a32, g_a33⟩, brn, bth, bdu, bwr, brl⟩ := id hRt
          obtain ⟨sl, sr, sc, hSt, hq⟩ := hSd
          obtain ⟨a15, a16, a17, ⟨v_14, v_15, v_16, v_17, v_18, v_19, v_20⟩, ⟨g_a15, g_a16, g_a17⟩⟩ := id hSt
          refine lv_istore (lv' := [(7, .int 0), (0, .ref x), (1, .int (nI mn)), (2, .long (lN o9)), (4, .long (sumL (fun l => if th (mn * 30 + l) = 1 then lN ((rk (mK nf fl fk fd fw fv l (30 * mn + 29) o9) (mE ne ef rr rm (30 * mn + 29))).2.2.2 / CT) - lN (du (mn * 30 + l)) else 0) n)), (6, .int (nI n))]) hx hb d_MO_difference_65 hl (by decide) rfl (fun ls hl => ?_)
          refine lv_lload hx hb d_MO_difference_67 (lv_at hl 4 rfl) ?_
          refine lv_iload hx hb d_MO_difference_69 (lv_at hl 0 rfl) ?_
          refine lv_if_eq (tgt := 85) hx hb d_MO_difference_71 (by decide) (fun c_8 => ?_) (fun c_8 => absurd rfl c_8)
          refine lv_lconst (v := 0) hx hb d_MO_difference_85 (by decide) ?_
          refine lv_aload_n hx hb d_MO_difference_86 rfl (lv_at hl 1 rfl) ?_
          refine f_get (C := "DutyRulesModel") (T := T_MO) (N := 40) hx hb (fun w q => hT w (s_MO w q)) hown hK hI g_x rfl 28 (by decide) (hT _ w_837) (fun _ q => q) (mo_get (by decide) v_28) d_MO_difference_87 ?_
          refine lv_iload_n hx hb d_MO_difference_90 rfl (lv_at hl 2 rfl) ?_
          refine lv_bipush (v := 30) hx hb d_MO_difference_91 (by decide) ?_
          refine lv_imul hx hb d_MO_difference_93 ?_
          refine f_asi (pk_mul mn 30) ?_
          refine lv_iload hx hb d_MO_difference_94 (lv_at hl 5 rfl) ?_
          refine lv_iadd hx hb d_MO_difference_96 ?_
          refine f_asi (nI_add (mn * 30) n) ?_
          refine f_laldn (k := ((mn * 30) + n)) (v := (lN (du ((mn * 30) + n)))) hx hb hI g_a28 (fT.ofK hK (t0 := 1) rfl) (by omega) (by omega) rfl d_MO_difference_97 ?_
          refine lv_lsub hx hb d_MO_difference_98 ?_
          refine lv_ladd hx hb d_MO_difference_99 ?_
          refine lv_lstore (lv' := [(4, .long ((sumL (fun l => if th (mn * 30 + l) = 1 then lN ((rk (mK nf fl fk fd fw fv l (30 * mn + 29) o9) (mE ne ef rr rm (30 * mn + 29))).2.2.2 / CT) - lN (du (mn * 30 + l)) else 0) n) + (0 - (lN (du ((mn * 30) + n)))))), (7, .int 0), (0, .ref x), (1, .int (nI mn)), (2, .long (lN o9)), (6, .int (nI n))]) hx hb d_MO_difference_100 hl (by decide) rfl (fun ls hl => ?_)
          refine lv_iinc (v := nI (n + 1)) (lv' := [(6, .int (nI (n + 1))), (4, .long ((sumL (fun l => if th (mn * 30 + l) = 1 then lN ((rk (mK nf fl fk fd fw fv l (30 * mn + 29) o9) (mE ne ef rr rm (30 * mn + 29))).2.2.2 / CT) - lN (du (mn * 30 + l)) else 0) n) + (0 - (lN (du ((mn * 30) + n)))))), (7, .int 0), (0, .ref x), (1, .int (nI mn)), (2, .long (lN o9))]) hx hb d_MO_difference_102 hl (k := 5) rfl (f_inc1 _) (by decide) rfl (fun ls hl => ?_)
          refine lv_goto (tgt := 31) hx hb d_MO_difference_105 (by decide) ?_
          refine ih (n + 1) (by omega) _ mf_6 _ _ g_x hFc hEd hRt hS0 hm1 hF hX hI ls ?_
          rw [sumL_add (f := (fun l => if th (mn * 30 + l) = 1 then lN ((rk (mK nf fl fk fd fw fv l (30 * mn + 29) o9) (mE ne ef rr rm (30 * mn + 29))).2.2.2 / CT) - lN (du (mn * 30 + l)) else 0)) (n := n) (v := 0 - lN (du (mn * 30 + n))) ((if_pos c_3).trans (by rw [hd0]; exact d0_q _))]
          exact lv_sub hl [3, 4, 5, 1, 0] rfl
  obtain ⟨a27, a28, a29, a31, a32, a33, ⟨v_27, v_28, v_29, v_30, v_31, v_32, v_33⟩, ⟨g_a27, g_a28, g_a29, g_a31, g_a32, g_a33⟩, brn, bth, bdu, bwr, brl⟩ := id hRt
  refine lv_iload_n hx hb d_MO_difference_0 rfl (lv_at hl 1 rfl) ?_
  refine f_calli hI (f_runS C hI (c_MO_isMonth l G h _ (nI mn)) gm_MO_isMonth w_1067 w_1066 rfl hl.1 rfl (Nat.le_of_ble_eq_true rfl) ⟨Nat.le_of_ble_eq_true rfl, Nat.le_of_ble_eq_true rfl⟩ d_MO_difference_1 ⟨Nat.le_of_ble_eq_true rfl, Nat.le_of_ble_eq_true rfl⟩) (fun r_9 h8 H9 locs hp9 hX9 hz9 hI => ?_)
  obtain ⟨rfl, e9⟩ := hp9
  rw [e9] at hI
  clear hX9 e9
  rw [rng_ok (a := nI mn) (N := 3001) (nI_pos (by omega)) (fun q => absurd ((n_le (a := 3001) (b := mn) (by omega) (by omega)).mp q) (by omega))]
  refine lv_if_eq (tgt := 23) hx hb d_MO_difference_4 (by decide) (fun c_10 => absurd c_10 (by decide)) (fun c_10 => ?_)
  refine lv_aload_n hx hb d_MO_difference_7 rfl (lv_at hl 0 rfl) ?_
  refine f_get (C := "DutyRulesModel") (T := T_MO) (N := 40) hx hb (fun w q => hT w (s_MO w q)) hown hK hI g_x rfl 29 (by decide) (hT _ w_838) (fun _ q => q) (mo_get (by decide) v_29) d_MO_difference_8 ?_
  refine lv_iload_n hx hb d_MO_difference_11 rfl (lv_at hl 1 rfl) ?_
  refine f_zaldn (k := mn) (v := (nI (wr mn))) hx hb hI g_a29 (fT.ofK hK (t0 := 2) rfl) (by omega) (by omega) rfl d_MO_difference_12 ?_
  refine lv_if_eq (tgt := 23) hx hb d_MO_difference_13 (by decide) (fun c_11 => absurd c_11 (fun q => by rw [hwr] at q; exact absurd q (by decide))) (fun c_11 => ?_)
  refine lv_lload_n hx hb d_MO_difference_16 rfl (lv_at hl 2 rfl) ?_
  refine f_calli hI (f_runS C hI (c_MO_isDay l G h _ (lN o9)) gm_MO_isDay w_999 w_998 rfl hl.1 rfl (Nat.le_of_ble_eq_true rfl) ⟨Nat.le_of_ble_eq_true rfl, Nat.le_of_ble_eq_true rfl⟩ d_MO_difference_17 ⟨Nat.le_of_ble_eq_true rfl, Nat.le_of_ble_eq_true rfl⟩) (fun r_12 h8 H9 locs hp9 hX9 hz9 hI => ?_)
  obtain ⟨rfl, e9⟩ := hp9
  rw [e9] at hI
  clear hX9 e9
  refine f_asi (day_ok (d := o9) (n := 100000) bo (by decide)) ?_
  refine lv_if_ne (tgt := 25) hx hb d_MO_difference_20 (by decide) (fun c_13 => ?_) (fun c_13 => absurd c_13 (by decide))
  refine lv_lconst (v := 0) hx hb d_MO_difference_25 (by decide) ?_
  refine lv_lstore (lv' := [(4, .long 0), (0, .ref x), (1, .int (nI mn)), (2, .long (lN o9))]) hx hb d_MO_difference_26 hl (by decide) rfl (fun ls hl => ?_)
  refine lv_iconst (v := 0) hx hb d_MO_difference_28 (by decide) ?_
  refine lv_istore (lv' := [(6, .int 0), (4, .long 0), (0, .ref x), (1, .int (nI mn)), (2, .long (lN o9))]) hx hb d_MO_difference_29 hl (by decide) rfl (fun ls hl => ?_)
  exact LOOP 30 0 (by omega) h mf _ _ g_x hFc hEd hRt hS0 (fun _ _ => rfl) fF.rf hX hI ls (lv_sub hl [2, 3, 4, 1, 0] rfl)
