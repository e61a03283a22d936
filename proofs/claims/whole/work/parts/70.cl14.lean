theorem gm_DR_duty : gM y_DR_duty b_DR_duty 7 (some .long) 4 := ⟨w_617, w_1, ⟨by decide, by decide⟩, by decide +kernel⟩
set_option maxHeartbeats 4000000 in
set_option maxRecDepth 100000 in
/-- DR_duty  -/
theorem c_DR_duty_no (l : Launch) (G : gG) (h : fH) (sz : Nat) (X T E F D I R Wr : Nat) (wa : Int32) (nr lr : Option Nat) (g_X : h X = some (1, 0, .inr (0, [.ref T, .ref E, .ref F, .ref D, .ref I, .ref R, .ref Wr, .int wa, va_rf nr, va_rf lr]))) (lot : Int32) (dy on : Int64) (pt : Int32) (hbad : (lot < 0 ∨ 30 ≤ lot) ∨ (dy < 0 ∨ 100000 < dy) ∨ (on < 0 ∨ 100000 < on) ∨ pt < 0 ∨ ¬ pt ≤ 1) : cM l y_DR_duty b_DR_duty 7 (some .long) { frames := 5, cells := 0, slots := 0, locals := 122 } G [.ref X, .int lot, .long dy, .long on, .int pt] h sz (cQl G h sz (fun z h' => z = (-9223372036854775808) ∧ h' = h)) := by
  refine f_start (by decide) (Nat.le_of_ble_eq_true rfl) ?_
  intro p e s m below meth c ls C hr hsz hI hl
  obtain ⟨hx, hb, hml, hown, hnm, hlk, hT, hG, hZ⟩ := id C
  have hK := hG.1
  have hX : fX h sz h := fX.rf
  have hl : lv_has ls 7 [(0, .ref X), (1, .int lot), (2, .long dy), (4, .long on), (6, .int pt)] := hl
  refine lv_iload_n hx hb d_DR_duty_0 rfl (lv_at hl 1 rfl) ?_
  refine f_calli hI (f_runS C hI (c_DR_isLot l G h _ lot) gm_DR_isLot w_559 w_558 rfl hl.1 rfl (Nat.le_of_ble_eq_true rfl) ⟨Nat.le_of_ble_eq_true rfl, Nat.le_of_ble_eq_true rfl⟩ d_DR_duty_1 ⟨by first | exact Nat.le_of_ble_eq_true rfl | ((try dsimp only); omega), by first | exact Nat.le_of_ble_eq_true rfl | ((try dsimp only); omega)⟩) (fun r_1 h8 H9 locs hp9 hX9 hz9 hI => ?_)
  obtain ⟨rfl, e9⟩ := hp9
  rw [e9] at hI
  clear hX9 e9
  refine lv_if_eq (tgt := 30) hx hb d_DR_duty_4 (by decide) (fun c_2 => ?_) (fun c_2 => ?_)
  · skip
    refine lv_ldc2 (v := (-9223372036854775808)) hx hb hown (hT _ w_621) d_DR_duty_30 ?_
    exact f_lret C hr hI ⟨rfl, rfl⟩ hX (by (try dsimp only); omega) (by (try dsimp only); omega) d_DR_duty_33
  · skip
    refine lv_lload_n hx hb d_DR_duty_7 rfl (lv_at hl 2 rfl) ?_
    refine f_calli hI (f_runS C hI (c_DR_isDay l G h _ dy) gm_DR_isDay w_547 w_546 rfl hl.1 rfl (Nat.le_of_ble_eq_true rfl) ⟨Nat.le_of_ble_eq_true rfl, Nat.le_of_ble_eq_true rfl⟩ d_DR_duty_8 ⟨by first | exact Nat.le_of_ble_eq_true rfl | ((try dsimp only); omega), by first | exact Nat.le_of_ble_eq_true rfl | ((try dsimp only); omega)⟩) (fun r_3 h8 H9 locs hp9 hX9 hz9 hI => ?_)
    obtain ⟨rfl, e9⟩ := hp9
    rw [e9] at hI
    clear hX9 e9
    refine lv_if_eq (tgt := 30) hx hb d_DR_duty_11 (by decide) (fun c_4 => ?_) (fun c_4 => ?_)
    · skip
      refine lv_ldc2 (v := (-9223372036854775808)) hx hb hown (hT _ w_621) d_DR_duty_30 ?_
      exact f_lret C hr hI ⟨rfl, rfl⟩ hX (by (try dsimp only); omega) (by (try dsimp only); omega) d_DR_duty_33
    · skip
      refine lv_lload hx hb d_DR_duty_14 (lv_at hl 3 rfl) ?_
      refine f_calli hI (f_runS C hI (c_DR_isDay l G h _ on) gm_DR_isDay w_547 w_546 rfl hl.1 rfl (Nat.le_of_ble_eq_true rfl) ⟨Nat.le_of_ble_eq_true rfl, Nat.le_of_ble_eq_true rfl⟩ d_DR_duty_16 ⟨by first | exact Nat.le_of_ble_eq_true rfl | ((try dsimp only); omega), by first | exact Nat.le_of_ble_eq_true rfl | ((try dsimp only); omega)⟩) (fun r_5 h8 H9 locs hp9 hX9 hz9 hI => ?_)
      obtain ⟨rfl, e9⟩ := hp9
      rw [e9] at hI
      clear hX9 e9
      refine lv_if_eq (tgt := 30) hx hb d_DR_duty_19 (by decide) (fun c_6 => ?_) (fun c_6 => ?_)
      · skip
        refine lv_ldc2 (v := (-9223372036854775808)) hx hb hown (hT _ w_621) d_DR_duty_30 ?_
        exact f_lret C hr hI ⟨rfl, rfl⟩ hX (by (try dsimp only); omega) (by (try dsimp only); omega) d_DR_duty_33
      · skip
        refine lv_iload hx hb d_DR_duty_22 (lv_at hl 4 rfl) ?_
        refine f_calli hI (f_runS C hI (c_DR_isPart l G h _ pt) gm_DR_isPart w_619 w_618 rfl hl.1 rfl (Nat.le_of_ble_eq_true rfl) ⟨Nat.le_of_ble_eq_true rfl, Nat.le_of_ble_eq_true rfl⟩ d_DR_duty_24 ⟨by first | exact Nat.le_of_ble_eq_true rfl | ((try dsimp only); omega), by first | exact Nat.le_of_ble_eq_true rfl | ((try dsimp only); omega)⟩) (fun r_7 h8 H9 locs hp9 hX9 hz9 hI => ?_)
        obtain ⟨rfl, e9⟩ := hp9
        rw [e9] at hI
        clear hX9 e9
        refine lv_if_ne (tgt := 34) hx hb d_DR_duty_27 (by decide) (fun c_8 => ?_) (fun c_8 => ?_)
        · skip
          exfalso
          rcases hbad with q | q | q | q | q
          · exact rng_no c_2 q
          · exact day_no c_4 q
          · exact day_no c_6 q
          · exact c_8 (par_bad (Or.inl q))
          · exact c_8 (par_bad (Or.inr q))
        · skip
          refine lv_ldc2 (v := (-9223372036854775808)) hx hb hown (hT _ w_621) d_DR_duty_30 ?_
          exact f_lret C hr hI ⟨rfl, rfl⟩ hX (by (try dsimp only); omega) (by (try dsimp only); omega) d_DR_duty_33
set_option maxHeartbeats 4000000 in
set_option maxRecDepth 100000 in
/-- DR_duty  -/
theorem c_DR_duty_ok (l : Launch) (G : gG) (h : fH) (sz : Nat) (X T E F D I R Wr : Nat) (wa : Int32) (nr lr : Option Nat) (g_X : h X = some (1, 0, .inr (0, [.ref T, .ref E, .ref F, .ref D, .ref I, .ref R, .ref Wr, .int wa, va_rf nr, va_rf lr]))) (ne : Nat) (ef rr rm : Nat → Nat) (hEd : cEd G h E ne ef rr rm) (A : Nat) (fa : Nat → Nat) (gq : Nat → Option Nat) (nf la : Nat) (fl fk fd fw fv : Nat → Nat) (hC : cFo G h F A fa gq nf la fl fk fd fw fv) (hoks : ∀ e9, e9 < ne → okE rr rm e9) (hbd : ∀ l9 d9 o9, (rk (mK nf fl fk fd fw fv l9 d9 o9) (mE ne ef rr rm d9)).2.2.2 ≤ 2100000000000000000 ∧ (rk (mK nf fl fk fd fw fv l9 d9 o9) (mE ne ef rr rm d9)).2.2.1 ≤ 100000000) (lt rs : Int32) (hv : Nat → Int32) (d : dst) (hD : cDu G h D 0 lt rs hv d) (lot day on : Nat) (pt : Int32) (blot : lot < 30) (bday : day ≤ 100000) (bon : on ≤ 100000) (hp1 : ¬ pt < 0) (hp2 : pt ≤ 1) : cM l y_DR_duty b_DR_duty 7 (some .long) { frames := 5, cells := 0, slots := 0, locals := 122 } G [.ref X, .int (nI lot), .long (lN day), .long (lN on), .int pt] h sz (cQl G h sz (fun z h' => z = (if (rk (mK nf fl fk fd fw fv lot day on) (mE ne ef rr rm day)).1 = -1 then frA (rk (mK nf fl fk fd fw fv lot day on) (mE ne ef rr rm day)).2.2.2 CT pt else (-9223372036854775808)) ∧ h' X = some (1, 0, .inr (0, [.ref T, .ref E, .ref F, .ref D, .ref I, .ref R, .ref Wr, .int 1, va_rf nr, va_rf lr])) ∧ (∃ hv', cDu G h' D 0 (nI lot) (rk (mK nf fl fk fd fw fv lot day on) (mE ne ef rr rm day)).1 hv' (rk (mK nf fl fk fd fw fv lot day on) (mE ne ef rr rm day)).2) ∧ fF (inXD 0) h h')) := by
  refine f_start (by decide) (Nat.le_of_ble_eq_true rfl) ?_
  intro p e s m below meth c ls C hr hsz hI hl
  obtain ⟨hx, hb, hml, hown, hnm, hlk, hT, hG, hZ⟩ := id C
  have hK := hG.1
  have hX : fX h sz h := fX.rf
  have hl : lv_has ls 7 [(0, .ref X), (1, .int (nI lot)), (2, .long (lN day)), (4, .long (lN on)), (6, .int pt)] := hl
  have hpt := par_01 hp1 hp2
  have hF : fF (inR [1]) h h := fF.rf
  have hb9 := (hbd lot day on).1
  refine lv_iload_n hx hb d_DR_duty_0 rfl (lv_at hl 1 rfl) ?_
  refine f_calli hI (f_runS C hI (c_DR_isLot l G h _ (nI lot)) gm_DR_isLot w_559 w_558 rfl hl.1 rfl (Nat.le_of_ble_eq_true rfl) ⟨Nat.le_of_ble_eq_true rfl, Nat.le_of_ble_eq_true rfl⟩ d_DR_duty_1 ⟨by first | exact Nat.le_of_ble_eq_true rfl | ((try dsimp only); omega), by first | exact Nat.le_of_ble_eq_true rfl | ((try dsimp only); omega)⟩) (fun r_1 h8 H9 locs hp9 hX9 hz9 hI => ?_)
  obtain ⟨rfl, e9⟩ := hp9
  rw [e9] at hI
  clear hX9 e9
  refine f_asi (lot_1 (by omega)) ?_
  refine lv_if_eq (tgt := 30) hx hb d_DR_duty_4 (by decide) (fun c_2 => absurd c_2 (by decide)) (fun c_2 => ?_)
  refine lv_lload_n hx hb d_DR_duty_7 rfl (lv_at hl 2 rfl) ?_
  refine f_calli hI (f_runS C hI (c_DR_isDay l G h _ (lN day)) gm_DR_isDay w_547 w_546 rfl hl.1 rfl (Nat.le_of_ble_eq_true rfl) ⟨Nat.le_of_ble_eq_true rfl, Nat.le_of_ble_eq_true rfl⟩ d_DR_duty_8 ⟨by first | exact Nat.le_of_ble_eq_true rfl | ((try dsimp only); omega), by first | exact Nat.le_of_ble_eq_true rfl | ((try dsimp only); omega)⟩) (fun r_3 h8 H9 locs hp9 hX9 hz9 hI => ?_)
  obtain ⟨rfl, e9⟩ := hp9
  rw [e9] at hI
  clear hX9 e9
  refine f_asi (day_1 (by omega)) ?_
  refine lv_if_eq (tgt := 30) hx hb d_DR_duty_11 (by decide) (fun c_4 => absurd c_4 (by decide)) (fun c_4 => ?_)
  refine lv_lload hx hb d_DR_duty_14 (lv_at hl 3 rfl) ?_
  refine f_calli hI (f_runS C hI (c_DR_isDay l G h _ (lN on)) gm_DR_isDay w_547 w_546 rfl hl.1 rfl (Nat.le_of_ble_eq_true rfl) ⟨Nat.le_of_ble_eq_true rfl, Nat.le_of_ble_eq_true rfl⟩ d_DR_duty_16 ⟨by first | exact Nat.le_of_ble_eq_true rfl | ((try dsimp only); omega), by first | exact Nat.le_of_ble_eq_true rfl | ((try dsimp only); omega)⟩) (fun r_5 h8 H9 locs hp9 hX9 hz9 hI => ?_)
  obtain ⟨rfl, e9⟩ := hp9
  rw [e9] at hI
  clear hX9 e9
  refine f_asi (day_1 (by omega)) ?_
  refine lv_if_eq (tgt := 30) hx hb d_DR_duty_19 (by decide) (fun c_6 => absurd c_6 (by decide)) (fun c_6 => ?_)
  refine lv_iload hx hb d_DR_duty_22 (lv_at hl 4 rfl) ?_
  refine f_calli hI (f_runS C hI (c_DR_isPart l G h _ pt) gm_DR_isPart w_619 w_618 rfl hl.1 rfl (Nat.le_of_ble_eq_true rfl) ⟨Nat.le_of_ble_eq_true rfl, Nat.le_of_ble_eq_true rfl⟩ d_DR_duty_24 ⟨by first | exact Nat.le_of_ble_eq_true rfl | ((try dsimp only); omega), by first | exact Nat.le_of_ble_eq_true rfl | ((try dsimp only); omega)⟩) (fun r_7 h8 H9 locs hp9 hX9 hz9 hI => ?_)
  obtain ⟨rfl, e9⟩ := hp9
  rw [e9] at hI
  clear hX9 e9
  refine f_asi (par_ok hpt) ?_
  refine lv_if_ne (tgt := 34) hx hb d_DR_duty_27 (by decide) (fun c_8 => ?_) (fun c_8 => absurd c_8 (by decide))
  refine lv_aload_n hx hb d_DR_duty_34 rfl (lv_at hl 0 rfl) ?_
  refine lv_iconst (v := 1) hx hb d_DR_duty_35 (by decide) ?_
  refine f_put (C := "DutyRules") (T := T_DR) (N := 10) (fs' := [.ref T, .ref E, .ref F, .ref D, .ref I, .ref R, .ref Wr, .int 1, va_rf nr, va_rf lr]) (v := .int 1) hx hb (fun w q => hT w (s_DR w q)) t_DR k_DR n_DR hown hK hI g_X (by decide) rfl 7 (by decide) (hT _ w_170) (fun _ q => q) rfl rfl rfl (Nat.le_of_ble_eq_true rfl) rfl d_DR_duty_36 (fun H locs hI => ?_)
  generalize eh_9 : fU h X (1, 0, .inr (0, [.ref T, .ref E, .ref F, .ref D, .ref I, .ref R, .ref Wr, .int 1, va_rf nr, va_rf lr])) = h_9 at hI
  have hX := hX.set (e := .inr (0, [.ref T, .ref E, .ref F, .ref D, .ref I, .ref R, .ref Wr, .int 1, va_rf nr, va_rf lr])) g_X (by decide); rw [eh_9] at hX
  have hF := hF.set (e := .inr (0, [.ref T, .ref E, .ref F, .ref D, .ref I, .ref R, .ref Wr, .int 1, va_rf nr, va_rf lr])) g_X (by decide); rw [eh_9] at hF
  have hW9 : fF (inR [1]) h h_9 := by rw [← eh_9]; exact fF.rf.set g_X (by show _ ∈ _; decide)
  have hEd := hEd.keepF hW9 (by decide)
  have hC := hC.keepF hW9 (by decide) (by decide) (by decide)
  have hD := hD.keepF hW9 (fun r9 q1 _ q => by have := List.mem_singleton.mp q; omega)
  have g_X : h_9 X = some (1, 0, .inr (0, [.ref T, .ref E, .ref F, .ref D, .ref I, .ref R, .ref Wr, .int 1, va_rf nr, va_rf lr])) := (congrFun eh_9 X).symm.trans (fU_self _ _ _)
  refine lv_aload_n hx hb d_DR_duty_39 rfl (lv_at hl 0 rfl) ?_
  refine f_get (C := "DutyRules") (T := T_DR) (N := 10) hx hb (fun w q => hT w (s_DR w q)) hown hK hI g_X rfl 3 (by decide) (hT _ w_166) (fun _ q => q) rfl d_DR_duty_40 ?_
  refine lv_aload_n hx hb d_DR_duty_43 rfl (lv_at hl 0 rfl) ?_
  refine f_get (C := "DutyRules") (T := T_DR) (N := 10) hx hb (fun w q => hT w (s_DR w q)) hown hK hI g_X rfl 1 (by decide) (hT _ w_164) (fun _ q => q) rfl d_DR_duty_44 ?_
  refine lv_aload_n hx hb d_DR_duty_47 rfl (lv_at hl 0 rfl) ?_
  refine f_get (C := "DutyRules") (T := T_DR) (N := 10) hx hb (fun w q => hT w (s_DR w q)) hown hK hI g_X rfl 2 (by decide) (hT _ w_165) (fun _ q => q) rfl d_DR_duty_48 ?_
  refine lv_iload_n hx hb d_DR_duty_51 rfl (lv_at hl 1 rfl) ?_
  refine lv_lload_n hx hb d_DR_duty_52 rfl (lv_at hl 2 rfl) ?_
  refine lv_l2i (v := nI day) hx hb d_DR_duty_53 (n_l2i _) ?_
  refine lv_lload hx hb d_DR_duty_54 (lv_at hl 3 rfl) ?_
  refine lv_l2i (v := nI on) hx hb d_DR_duty_56 (n_l2i _) ?_
  have hzA := hI.2.2.2.1
  obtain ⟨i1, i2, i3, i4, il, ir, ic, g_D, _⟩ := id hD
  refine f_callv hI (f_runV C hI (c_DU_reckon l G h_9 _ D 0 lt rs hv d hD E ne ef rr rm hEd F A fa gq nf la fl fk fd fw fv hC lot day on blot bday bon hoks) gm_DU_reckon w_623 w_624 w_622 g_D rfl rfl rfl hl.1 rfl (Nat.le_of_ble_eq_true rfl) ⟨Nat.le_of_ble_eq_true rfl, Nat.le_of_ble_eq_true rfl⟩ d_DR_duty_57 ⟨Nat.le_of_ble_eq_true rfl, Nat.le_of_ble_eq_true rfl⟩) (fun h9 H9 locs hp9 hX9 hz9 hI => ?_)
  obtain ⟨hv2, hD9, hF9⟩ := hp9
  have hX := fX.tr (Nat.le_trans (Nat.le_of_eq hsz.symm) hzA) hX hX9
  have g_X := hF9 _ _ _ _ g_X (fun q => by have := q.1; omega)
  have hFx := fF.xd hF hF9
  obtain ⟨i1, i2, i3, i4, il, ir, ic, g_D, _⟩ := id hD9
  refine lv_aload_n hx hb d_DR_duty_60 rfl (lv_at hl 0 rfl) ?_
  refine f_get (C := "DutyRules") (T := T_DR) (N := 10) hx hb (fun w q => hT w (s_DR w q)) hown hK hI g_X rfl 3 (by decide) (hT _ w_166) (fun _ q => q) rfl d_DR_duty_61 ?_
  refine f_getN (C := "DutyRules$Duty") (T := T_DU) (N := 9) hx hb (fun w q => hT w (s_DU w q)) hown hK hI g_D rfl 1 (by decide) (hG.2.1 _ w_110) (fun _ q => q) rfl d_DR_duty_64 ?_
  refine lv_iconst (v := (-1)) hx hb d_DR_duty_67 (by decide) ?_
  refine lv_icmp_eq (tgt := 75) hx hb d_DR_duty_68 (by decide) (fun c_11 => ?_) (fun c_11 => ?_)
  · skip
    refine lv_aload_n hx hb d_DR_duty_75 rfl (lv_at hl 0 rfl) ?_
    refine f_get (C := "DutyRules") (T := T_DR) (N := 10) hx hb (fun w q => hT w (s_DR w q)) hown hK hI g_X rfl 3 (by decide) (hT _ w_166) (fun _ q => q) rfl d_DR_duty_76 ?_
    refine f_getN (C := "DutyRules$Duty") (T := T_DU) (N := 9) hx hb (fun w q => hT w (s_DU w q)) hown hK hI g_D rfl 3 (by decide) (hG.2.1 _ w_114) (fun _ q => q) rfl d_DR_duty_79 ?_
    refine lv_ldc2 (v := 100000000000) hx hb hown (hT _ w_679) d_DR_duty_82 ?_
    refine lv_iload hx hb d_DR_duty_85 (lv_at hl 4 rfl) ?_
    have hk1 : (rk (mK nf fl fk fd fw fv lot day on) (mE ne ef rr rm day)).1 = -1 := c_11
    refine f_calll hI (f_runS C hI (c_DR_reduced l G h9 _ (rk (mK nf fl fk fd fw fv lot day on) (mE ne ef rr rm day)).2.2.2 CT pt (by omega) (by decide) (by decide)) gm_DR_reduced w_681 w_680 rfl hl.1 rfl (Nat.le_of_ble_eq_true rfl) ⟨Nat.le_of_ble_eq_true rfl, Nat.le_of_ble_eq_true rfl⟩ d_DR_duty_87 ⟨Nat.le_of_ble_eq_true rfl, Nat.le_of_ble_eq_true rfl⟩) (fun r_12 h8 H9 locs hp9 hX9 hz9 hI => ?_)
    obtain ⟨rfl, e9⟩ := hp9
    rw [e9] at hI
    clear hX9 e9
    exact f_lret C hr hI ⟨(if_pos hk1).symm, g_X, ⟨_, hD9⟩, hFx⟩ hX (Nat.le_refl _) (Nat.le_refl _) d_DR_duty_90
  · skip
    refine lv_ldc2 (v := (-9223372036854775808)) hx hb hown (hT _ w_621) d_DR_duty_71 ?_
    exact f_lret C hr hI ⟨(if_neg c_11).symm, g_X, ⟨_, hD9⟩, hFx⟩ hX (Nat.le_refl _) (Nat.le_refl _) d_DR_duty_74
theorem gm_DR_allowed : gM y_DR_allowed b_DR_allowed 7 (some .long) 2 := ⟨w_699, w_1, ⟨by decide, by decide⟩, by decide +kernel⟩
set_option maxHeartbeats 4000000 in
set_option maxRecDepth 100000 in
/-- DR_allowed  -/
theorem c_DR_allowed_no (l : Launch) (G : gG) (h : fH) (sz : Nat) (X T E F D I R Wr : Nat) (wa : Int32) (nr lr : Option Nat) (g_X : h X = some (1, 0, .inr (0, [.ref T, .ref E, .ref F, .ref D, .ref I, .ref R, .ref Wr, .int wa, va_rf nr, va_rf lr]))) (mo1 pt : Int32) (hbad : (mo1 < 0 ∨ 3001 ≤ mo1) ∨ pt < 0 ∨ ¬ pt ≤ 1) : cM l y_DR_allowed b_DR_allowed 7 (some .long) { frames := 5, cells := 0, slots := 0, locals := 122 } G [.ref X, .int mo1, .int pt] h sz (cQl G h sz (fun z h' => z = -1 ∧ h' = h)) := by
  refine f_start (by decide) (Nat.le_of_ble_eq_true rfl) ?_
  intro p e s m below meth c ls C hr hsz hI hl
  obtain ⟨hx, hb, hml, hown, hnm, hlk, hT, hG, hZ⟩ := id C
  have hK := hG.1
  have hX : fX h sz h := fX.rf
  have hl : lv_has ls 7 [(0, .ref X), (1, .int mo1), (2, .int pt)] := hl
  refine lv_iload_n hx hb d_DR_allowed_0 rfl (lv_at hl 1 rfl) ?_
  refine f_calli hI (f_runS C hI (c_DR_isMonth l G h _ mo1) gm_DR_isMonth w_701 w_700 rfl hl.1 rfl (Nat.le_of_ble_eq_true rfl) ⟨Nat.le_of_ble_eq_true rfl, Nat.le_of_ble_eq_true rfl⟩ d_DR_allowed_1 ⟨Nat.le_of_ble_eq_true rfl, Nat.le_of_ble_eq_true rfl⟩) (fun r_1 h8 H9 locs hp9 hX9 hz9 hI => ?_)
  obtain ⟨rfl, e9⟩ := hp9
  rw [e9] at hI
  clear hX9 e9
  refine lv_if_eq (tgt := 14) hx hb d_DR_allowed_4 (by decide) (fun c_2 => ?_) (fun c_2 => ?_)
  · skip
    refine lv_ldc2 (v := (-1)) hx hb hown (hT _ w_703) d_DR_allowed_14 ?_
    exact f_lret C hr hI ⟨rfl, rfl⟩ hX (by (try dsimp only); omega) (by (try dsimp only); omega) d_DR_allowed_17
  · skip
    refine lv_iload_n hx hb d_DR_allowed_7 rfl (lv_at hl 2 rfl) ?_
    refine f_calli hI (f_runS C hI (c_DR_isPart l G h _ pt) gm_DR_isPart w_619 w_618 rfl hl.1 rfl (Nat.le_of_ble_eq_true rfl) ⟨Nat.le_of_ble_eq_true rfl, Nat.le_of_ble_eq_true rfl⟩ d_DR_allowed_8 ⟨by first | exact Nat.le_of_ble_eq_true rfl | ((try dsimp only); omega), by first | exact Nat.le_of_ble_eq_true rfl | ((try dsimp only); omega)⟩) (fun r_3 h8 H9 locs hp9 hX9 hz9 hI => ?_)
    obtain ⟨rfl, e9⟩ := hp9
    rw [e9] at hI
    clear hX9 e9
    refine lv_if_ne (tgt := 18) hx hb d_DR_allowed_11 (by decide) (fun c_4 => ?_) (fun c_4 => ?_)
    · skip
      exfalso
      rcases hbad with q | q | q
      · exact c_2 (mon_bad q)
      · exact c_4 (par_bad (Or.inl q))
      · exact c_4 (par_bad (Or.inr q))
    · skip
      refine lv_ldc2 (v := (-1)) hx hb hown (hT _ w_703) d_DR_allowed_14 ?_
      exact f_lret C hr hI ⟨rfl, rfl⟩ hX (by (try dsimp only); omega) (by (try dsimp only); omega) d_DR_allowed_17
set_option maxHeartbeats 4000000 in
set_option maxRecDepth 100000 in
/-- DR_allowed  -/
theorem c_DR_allowed_ok (l : Launch) (G : gG) (h : fH) (sz : Nat) (X T E F D I R Wr : Nat) (wa : Int32) (nr lr : Option Nat) (g_X : h X = some (1, 0, .inr (0, [.ref T, .ref E, .ref F, .ref D, .ref I, .ref R, .ref Wr, .int wa, va_rf nr, va_rf lr]))) (ne : Nat) (ef rr rm : Nat → Nat) (hEd : cEd G h E ne ef rr rm) (A : Nat) (fa : Nat → Nat) (gq : Nat → Option Nat) (nf la : Nat) (fl fk fd fw fv : Nat → Nat) (hC : cFo G h F A fa gq nf la fl fk fd fw fv) (hoks : ∀ e9, e9 < ne → okE rr rm e9) (hbd : ∀ l9 d9 o9, (rk (mK nf fl fk fd fw fv l9 d9 o9) (mE ne ef rr rm d9)).2.2.2 ≤ 2100000000000000000 ∧ (rk (mK nf fl fk fd fw fv l9 d9 o9) (mE ne ef rr rm d9)).2.2.1 ≤ 100000000) (hIn : cIn G h I) (mn : Nat) (pt : Int32) (bm : mn ≤ 3000) (hp1 : ¬ pt < 0) (hp2 : pt ≤ 1) : cM l y_DR_allowed b_DR_allowed 7 (some .long) { frames := 5, cells := 0, slots := 0, locals := 122 } G [.ref X, .int (nI mn), .int pt] h sz (cQl G h sz (fun z h' => z = frA (sumN (fun l => (rk (mK nf fl fk fd fw fv l (30 * mn + 29) (30 * mn + 29)) (mE ne ef rr rm (30 * mn + 29))).2.2.1) 30) 10000 pt ∧ cIn G h' I ∧ fF (inD 1) h h')) := by
  refine f_start (by decide) (Nat.le_of_ble_eq_true rfl) ?_
  intro p e s m below meth c ls C hr hsz hI hl
  obtain ⟨hx, hb, hml, hown, hnm, hlk, hT, hG, hZ⟩ := id C
  have hK := hG.1
  have hX : fX h sz h := fX.rf
  have hl : lv_has ls 7 [(0, .ref X), (1, .int (nI mn)), (2, .int pt)] := hl
  have hpt := par_01 hp1 hp2
  have hF : fF (inD 1) h h := fF.rf
  have hsu := sumN_le (f := (fun l => (rk (mK nf fl fk fd fw fv l (30 * mn + 29) (30 * mn + 29)) (mE ne ef rr rm (30 * mn + 29))).2.2.1)) (M := 100000000) (fun i => (hbd i (30 * mn + 29) (30 * mn + 29)).2)
  have J29 : ∀ (k n : Nat), n + k = 30 → ∀ (h1 : fH) (H : Heap) (locs : List Loc), h1 X = some (1, 0, .inr (0, [.ref T, .ref E, .ref F, .ref D, .ref I, .ref R, .ref Wr, .int wa, va_rf nr, va_rf lr])) → cIn G h1 I → fF (inD 1) h h1 → fX h sz h1 → fI G.1 g_cl (fA h sz) s.heap h1 H locs → ∀ ls : Array Slot, lv_has ls 7 [(0, .ref X), (1, .int (nI mn)), (2, .int pt), (3, .int (nI (30 * mn + 29))), (4, .long (lN (sumN (fun l => (rk (mK nf fl fk fd fw fv l (30 * mn + 29) (30 * mn + 29)) (mE ne ef rr rm (30 * mn + 29))).2.2.1) n))), (6, .int (nI n))] → W p l e { frames := 5, cells := 0, slots := 0, locals := 122 } s m ([.ref X, .int (nI mn), .int pt] : List Value).toArray below meth c H locs 0 0 (MQ below (cQl G h sz (fun z h' => z = frA (sumN (fun l => (rk (mK nf fl fk fd fw fv l (30 * mn + 29) (30 * mn + 29)) (mE ne ef rr rm (30 * mn + 29))).2.2.1) 30) 10000 pt ∧ cIn G h' I ∧ fF (inD 1) h h')) ([.ref X, .int (nI mn), .int pt] : List Value).toArray s 0 0 (fA h sz)) (F0 m 29 ls []) := by
    intro k
    induction k with
    | zero =>
      intro n hn h1 H locs g_X hIn hF hX hI ls hl
      have hn2 : n = 30 := by omega
      subst hn2
      have hs9 := hsu 30
      refine lv_iload hx hb d_DR_allowed_29 (lv_at hl 5 rfl) ?_
      refine lv_bipush (v := 30) hx hb d_DR_allowed_31 (by decide) ?_
      refine lv_icmp_ge (tgt := 73) hx hb d_DR_allowed_33 (by decide) (fun c_1 => ?_) (fun c_1 => absurd ((n_le (a := 30) (b := 30) (by omega) (by omega)).mpr (by omega)) c_1)
      refine lv_lload hx hb d_DR_allowed_73 (lv_at hl 4 rfl) ?_
      refine lv_ldc2 (v := 10000) hx hb hown (hT _ w_707) d_DR_allowed_75 ?_
      refine lv_iload_n hx hb d_DR_allowed_78 rfl (lv_at hl 2 rfl) ?_
      refine f_calll hI (f_runS C hI (c_DR_reduced l G h1 _ (sumN (fun l => (rk (mK nf fl fk fd fw fv l (30 * mn + 29) (30 * mn + 29)) (mE ne ef rr rm (30 * mn + 29))).2.2.1) 30) 10000 pt (by omega) (by decide) (by decide)) gm_DR_reduced w_681 w_680 rfl hl.1 rfl (Nat.le_of_ble_eq_true rfl) ⟨Nat.le_of_ble_eq_true rfl, Nat.le_of_ble_eq_true rfl⟩ d_DR_allowed_79 ⟨Nat.le_of_ble_eq_true rfl, Nat.le_of_ble_eq_true rfl⟩) (fun r_2 h8 H9 locs hp9 hX9 hz9 hI => ?_)
      obtain ⟨rfl, e9⟩ := hp9
      rw [e9] at hI
      clear hX9 e9
      exact f_lret C hr hI ⟨rfl, hIn, hF⟩ hX (by (try dsimp only); omega) (by (try dsimp only); omega) d_DR_allowed_82
    | succ k ih =>
      intro n hn h1 H locs g_X hIn hF hX hI ls hl
      have ih : ∀ n : Nat, n + k = 30 → ∀ (h1 : fH) (H : Heap) (locs : List Loc), h1 X = some (1, 0, .inr (0, [.ref T, .ref E, .ref F, .ref D, .ref I, .ref R, .ref Wr, .int wa, va_rf nr, va_rf lr])) → cIn G h1 I → fF (inD 1) h h1 → fX h sz h1 → fI G.1 g_cl (fA h sz) s.heap h1 H locs → ∀ ls : Array Slot, lv_has ls 7 [(0, .ref X), (1, .int (nI mn)), (2, .int pt), (3, .int (nI (30 * mn + 29))), (4, .long (lN (sumN (fun l => (rk (mK nf fl fk fd fw fv l (30 * mn + 29) (30 * mn + 29)) (mE ne ef rr rm (30 * mn + 29))).2.2.1) n))), (6, .int (nI n))] → W p l e { frames := 5, cells := 0, slots := 0, locals := 122 } s m ([.ref X, .int (nI mn), .int pt] : List Value).toArray below meth c H locs 0 0 (MQ below (cQl G h sz (fun z h' => z = frA (sumN (fun l => (rk (mK nf fl fk fd fw fv l (30 * mn + 29) (30 * mn + 29)) (mE ne ef rr rm (30 * mn + 29))).2.2.1) 30) 10000 pt ∧ cIn G h' I ∧ fF (inD 1) h h')) ([.ref X, .int (nI mn), .int pt] : List Value).toArray s 0 0 (fA h sz)) (F0 m 29 ls []) := ih
      have hs9 := hsu n
      have hb9 := (hbd n (30 * mn + 29) (30 * mn + 29)).2
      have hEd9 := hEd.keepD hF
      have hC9 := hC.keepD hF
      obtain ⟨lt, rs, hv, d, hD⟩ := id hIn
      obtain ⟨i1, i2, i3, i4, il, ir, ic, g_I, _⟩ := id hD
      refine lv_iload hx hb d_DR_allowed_29 (lv_at hl 5 rfl) ?_
      refine lv_bipush (v := 30) hx hb d_DR_allowed_31 (by decide) ?_
      refine lv_icmp_ge (tgt := 73) hx hb d_DR_allowed_33 (by decide) (fun c_3 => absurd c_3 (fun q => absurd ((n_le (a := 30) (b := n) (by omega) (by omega)).mp q) (by omega))) (fun c_3 => ?_)
      refine lv_aload_n hx hb d_DR_allowed_36 rfl (lv_at hl 0 rfl) ?_
      refine f_get (C := "DutyRules") (T := T_DR) (N := 10) hx hb (fun w q => hT w (s_DR w q)) hown hK hI g_X rfl 4 (by decide) (hT _ w_167) (fun _ q => q) rfl d_DR_allowed_37 ?_
      refine lv_aload_n hx hb d_DR_allowed_40 rfl (lv_at hl 0 rfl) ?_
      refine f_get (C := "DutyRules") (T := T_DR) (N := 10) hx hb (fun w q => hT w (s_DR w q)) hown hK hI g_X rfl 1 (by decide) (hT _ w_164) (fun _ q => q) rfl d_DR_allowed_41 ?_
      refine lv_aload_n hx hb d_DR_allowed_44 rfl (lv_at hl 0 rfl) ?_
      refine f_get (C := "DutyRules") (T := T_DR) (N := 10) hx hb (fun w q => hT w (s_DR w q)) hown hK hI g_X rfl 2 (by decide) (hT _ w_165) (fun _ q => q) rfl d_DR_allowed_45 ?_
      refine lv_iload hx hb d_DR_allowed_48 (lv_at hl 5 rfl) ?_
      refine lv_iload_n hx hb d_DR_allowed_50 rfl (lv_at hl 3 rfl) ?_
      refine lv_iload_n hx hb d_DR_allowed_51 rfl (lv_at hl 3 rfl) ?_
      have hzA := hI.2.2.2.1
      refine f_callv hI (f_runV C hI (c_DU_reckon l G h1 _ I 1 lt rs hv d hD E ne ef rr rm hEd9 F A fa gq nf la fl fk fd fw fv hC9 n (30 * mn + 29) (30 * mn + 29) (by omega) (by omega) (by omega) hoks) gm_DU_reckon w_623 w_624 w_622 g_I rfl rfl rfl hl.1 rfl (Nat.le_of_ble_eq_true rfl) ⟨Nat.le_of_ble_eq_true rfl, Nat.le_of_ble_eq_true rfl⟩ d_DR_allowed_52 ⟨Nat.le_of_ble_eq_true rfl, Nat.le_of_ble_eq_true rfl⟩) (fun h9 H9 locs hp9 hX9 hz9 hI => ?_)
      obtain ⟨hv2, hD9, hF9⟩ := hp9
      have hX := fX.tr (Nat.le_trans (Nat.le_of_eq hsz.symm) hzA) hX hX9
      have g_X := hF9 _ _ _ _ g_X (fun q => by have := q.1; omega)
      have hF := hF.tr hF9
      have hIn : cIn G h9 I := ⟨_, _, _, _, hD9⟩
      obtain ⟨i1, i2, i3, i4, il, ir, ic, g_I, _⟩ := id hD9
      refine lv_lload hx hb d_DR_allowed_55 (lv_at hl 4 rfl) ?_
      refine lv_aload_n hx hb d_DR_allowed_57 rfl (lv_at hl 0 rfl) ?_
      refine f_get (C := "DutyRules") (T := T_DR) (N := 10) hx hb (fun w q => hT w (s_DR w q)) hown hK hI g_X rfl 4 (by decide) (hT _ w_167) (fun _ q => q) rfl d_DR_allowed_58 ?_
      refine f_getN (C := "DutyRules$Duty") (T := T_DU) (N := 9) hx hb (fun w q => hT w (s_DU w q)) hown hK hI g_I rfl 4 (by decide) (hG.2.1 _ w_116) (fun _ q => q) rfl d_DR_allowed_61 ?_
      refine lv_ladd hx hb d_DR_allowed_64 ?_
      refine f_asl (lN_add (sumN (fun l => (rk (mK nf fl fk fd fw fv l (30 * mn + 29) (30 * mn + 29)) (mE ne ef rr rm (30 * mn + 29))).2.2.1) n) (rk (mK nf fl fk fd fw fv n (30 * mn + 29) (30 * mn + 29)) (mE ne ef rr rm (30 * mn + 29))).2.2.1) ?_
      refine lv_lstore (lv' := [(4, .long (lN ((sumN (fun l => (rk (mK nf fl fk fd fw fv l (30 * mn + 29) (30 * mn + 29)) (mE ne ef rr rm (30 * mn + 29))).2.2.1) n) + (rk (mK nf fl fk fd fw fv n (30 * mn + 29) (30 * mn + 29)) (mE ne ef rr rm (30 * mn + 29))).2.2.1))), (0, .ref X), (1, .int (nI mn)), (2, .int pt), (3, .int (nI (30 * mn + 29))), (6, .int (nI n))]) hx hb d_DR_allowed_65 hl (by decide) rfl (fun ls hl => ?_)
      refine lv_iinc (v := nI (n + 1)) (lv' := [(6, .int (nI (n + 1))), (4, .long (lN ((sumN (fun l => (rk (mK nf fl fk fd fw fv l (30 * mn + 29) (30 * mn + 29)) (mE ne ef rr rm (30 * mn + 29))).2.2.1) n) + (rk (mK nf fl fk fd fw fv n (30 * mn + 29) (30 * mn + 29)) (mE ne ef rr rm (30 * mn + 29))).2.2.1))), (0, .ref X), (1, .int (nI mn)), (2, .int pt), (3, .int (nI (30 * mn + 29)))]) hx hb d_DR_allowed_67 hl (k := 5) rfl (f_inc1 _) (by decide) rfl (fun ls hl => ?_)
      refine lv_goto (tgt := 29) hx hb d_DR_allowed_70 (by decide) ?_
      refine ih (n + 1) (by omega) _ _ _ g_X hIn hF hX hI ls ?_
      exact lv_sub hl [2, 3, 4, 5, 1, 0] rfl
  refine lv_iload_n hx hb d_DR_allowed_0 rfl (lv_at hl 1 rfl) ?_
  refine f_calli hI (f_runS C hI (c_DR_isMonth l G h _ (nI mn)) gm_DR_isMonth w_701 w_700 rfl hl.1 rfl (Nat.le_of_ble_eq_true rfl) ⟨Nat.le_of_ble_eq_true rfl, Nat.le_of_ble_eq_true rfl⟩ d_DR_allowed_1 ⟨by first | exact Nat.le_of_ble_eq_true rfl | ((try dsimp only); omega), by first | exact Nat.le_of_ble_eq_true rfl | ((try dsimp only); omega)⟩) (fun r_5 h8 H9 locs hp9 hX9 hz9 hI => ?_)
  obtain ⟨rfl, e9⟩ := hp9
  rw [e9] at hI
  clear hX9 e9
  refine f_asi (mon_1 bm) ?_
  refine lv_if_eq (tgt := 14) hx hb d_DR_allowed_4 (by decide) (fun c_6 => absurd c_6 (by decide)) (fun c_6 => ?_)
  refine lv_iload_n hx hb d_DR_allowed_7 rfl (lv_at hl 2 rfl) ?_
  refine f_calli hI (f_runS C hI (c_DR_isPart l G h _ pt) gm_DR_isPart w_619 w_618 rfl hl.1 rfl (Nat.le_of_ble_eq_true rfl) ⟨Nat.le_of_ble_eq_true rfl, Nat.le_of_ble_eq_true rfl⟩ d_DR_allowed_8 ⟨by first | exact Nat.le_of_ble_eq_true rfl | ((try dsimp only); omega), by first | exact Nat.le_of_ble_eq_true rfl | ((try dsimp only); omega)⟩) (fun r_7 h8 H9 locs hp9 hX9 hz9 hI => ?_)
  obtain ⟨rfl, e9⟩ := hp9
  rw [e9] at hI
  clear hX9 e9
  refine f_asi (par_ok hpt) ?_
  refine lv_if_ne (tgt := 18) hx hb d_DR_allowed_11 (by decide) (fun c_8 => ?_) (fun c_8 => absurd c_8 (by decide))
  refine lv_iload_n hx hb d_DR_allowed_18 rfl (lv_at hl 1 rfl) ?_
  refine f_calli hI (f_runS C hI (c_DR_lastDayOf l G h _ (nI mn)) gm_DR_lastDayOf w_705 w_704 rfl hl.1 rfl (Nat.le_of_ble_eq_true rfl) ⟨Nat.le_of_ble_eq_true rfl, Nat.le_of_ble_eq_true rfl⟩ d_DR_allowed_19 ⟨by first | exact Nat.le_of_ble_eq_true rfl | ((try dsimp only); omega), by first | exact Nat.le_of_ble_eq_true rfl | ((try dsimp only); omega)⟩) (fun r_9 h8 H9 locs hp9 hX9 hz9 hI => ?_)
  obtain ⟨rfl, e9⟩ := hp9
  rw [e9] at hI
  clear hX9 e9
  refine f_asi (ld_n bm) ?_
  refine lv_istore_n (lv' := [(3, .int (nI (30 * mn + 29))), (0, .ref X), (1, .int (nI mn)), (2, .int pt)]) hx hb d_DR_allowed_22 rfl hl (by decide) rfl (fun ls hl => ?_)
  refine lv_lconst (v := 0) hx hb d_DR_allowed_23 (by decide) ?_
  refine lv_lstore (lv' := [(4, .long 0), (3, .int (nI (30 * mn + 29))), (0, .ref X), (1, .int (nI mn)), (2, .int pt)]) hx hb d_DR_allowed_24 hl (by decide) rfl (fun ls hl => ?_)
  refine lv_iconst (v := 0) hx hb d_DR_allowed_26 (by decide) ?_
  refine lv_istore (lv' := [(6, .int 0), (4, .long 0), (3, .int (nI (30 * mn + 29))), (0, .ref X), (1, .int (nI mn)), (2, .int pt)]) hx hb d_DR_allowed_27 hl (by decide) rfl (fun ls hl => ?_)
  refine J29 30 0 (by omega) _ _ _ g_X hIn hF hX hI ls ?_
  exact lv_sub hl [3, 4, 5, 2, 1, 0] rfl
