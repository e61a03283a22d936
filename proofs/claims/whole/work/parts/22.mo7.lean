theorem gm_MO_told : gM y_MO_told b_MO_told 7 (some .boolean) 3 := ⟨w_1012, w_10, ⟨by decide, by decide⟩, by decide +kernel⟩
set_option maxHeartbeats 4000000 in
set_option maxRecDepth 100000 in
/-- MO_told  -/
theorem c_MO_told_no (l : Launch) (G : gG) (h : fH) (sz : Nat) (x : Nat) (lot kd : Int32) (mf : Nat → Value) (g_x : h x = some (40, 0, .inr (8, mo mf))) (nf : Nat) (fl fk fd fw fv : Nat → Nat) (hFc : mFc G h mf nf fl fk fd fw fv) (la : Nat) (v_13 : mf 13 = .long (lN la)) (bla : la ≤ 100000) (on : Int64) (hbad : lst (lP fl fk lot kd) nf = none ∨ (on < 0 ∨ 100000 < on)) : cM l y_MO_told b_MO_told 7 (some .boolean) { frames := 1, cells := 0, slots := 0, locals := 21 } G [.ref x, .int lot, .int kd, .long on] h sz (cQi G h sz (fun r h' => r = 0 ∧ h' = h)) := by
  refine f_start (by decide) (Nat.le_of_ble_eq_true rfl) ?_
  intro p e s m below meth c ls C hr hsz hI hl
  obtain ⟨hx, hb, hml, hown, hnm, hlk, hT, hG, hZ⟩ := id C
  have hK := hG.1
  have hX : fX h sz h := fX.rf
  have hl : lv_has ls 7 [(0, .ref x), (1, .int lot), (2, .int kd), (3, .long on)] := hl
  obtain ⟨a7, a8, a9, a10, a11, ⟨v_7, v_8, v_9, v_10, v_11, v_12⟩, ⟨g_a7, g_a8, g_a9, g_a10, g_a11⟩, bnf, bfl, bfk, bfd, bfw, bfv0⟩ := hFc
  have LOOP : ∀ (k n : Nat), n + k = nf → ∀ ls : Array Slot, lv_has ls 7 [(0, .ref x), (1, .int lot), (2, .int kd), (3, .long on), (5, .int (oN (lst (lP fl fk lot kd) n))), (6, .int (nI n))] → W p l e { frames := 1, cells := 0, slots := 0, locals := 21 } s m ([.ref x, .int lot, .int kd, .long on] : List Value).toArray below meth c s.heap [] 0 0 (MQ below (cQi G h sz (fun r h' => r = 0 ∧ h' = h)) ([.ref x, .int lot, .int kd, .long on] : List Value).toArray s 0 0 (fA h sz)) (F0 m 6 ls []) := by
    intro k
    induction k with
    | zero =>
      intro n hn ls hl
      have hn2 : nf = n := by omega
      subst hn2
      rcases el : lst (lP fl fk lot kd) nf with _ | f
      · rw [el] at hl; have hl : lv_has ls 7 [(0, .ref x), (1, .int lot), (2, .int kd), (3, .long on), (5, .int (-1)), (6, .int (nI nf))] := hl
        refine lv_iload hx hb d_MO_told_6 (lv_at hl 5 rfl) ?_
        refine lv_aload_n hx hb d_MO_told_8 rfl (lv_at hl 0 rfl) ?_
        refine f_get (C := "DutyRulesModel") (T := T_MO) (N := 40) hx hb (fun w q => hT w (s_MO w q)) hown hK hI g_x rfl 12 (by decide) (hT _ w_821) (fun _ q => q) (mo_get (by decide) v_12) d_MO_told_9 ?_
        refine lv_icmp_ge (tgt := 52) hx hb d_MO_told_12 (by decide) (fun c_1 => ?_) (fun c_1 => absurd (l_rfI _) c_1)
        refine lv_iload hx hb d_MO_told_52 (lv_at hl 4 rfl) ?_
        refine lv_iconst (v := (-1)) hx hb d_MO_told_54 (by decide) ?_
        refine lv_icmp_eq (tgt := 65) hx hb d_MO_told_55 (by decide) (fun c_2 => ?_) (fun c_2 => absurd rfl c_2)
        refine lv_iconst (v := 0) hx hb d_MO_told_65 (by decide) ?_
        exact f_zret C hr rfl hI ⟨rfl, rfl⟩ hX (Nat.le_refl _) (Nat.le_refl _) d_MO_told_66
      · rw [el] at hl; have hl : lv_has ls 7 [(0, .ref x), (1, .int lot), (2, .int kd), (3, .long on), (5, .int (nI f)), (6, .int (nI nf))] := hl
        have hf := lst_in el
        refine lv_iload hx hb d_MO_told_6 (lv_at hl 5 rfl) ?_
        refine lv_aload_n hx hb d_MO_told_8 rfl (lv_at hl 0 rfl) ?_
        refine f_get (C := "DutyRulesModel") (T := T_MO) (N := 40) hx hb (fun w q => hT w (s_MO w q)) hown hK hI g_x rfl 12 (by decide) (hT _ w_821) (fun _ q => q) (mo_get (by decide) v_12) d_MO_told_9 ?_
        refine lv_icmp_ge (tgt := 52) hx hb d_MO_told_12 (by decide) (fun c_3 => ?_) (fun c_3 => absurd (l_rfI _) c_3)
        refine lv_iload hx hb d_MO_told_52 (lv_at hl 4 rfl) ?_
        refine lv_iconst (v := (-1)) hx hb d_MO_told_54 (by decide) ?_
        refine lv_icmp_eq (tgt := 65) hx hb d_MO_told_55 (by decide) (fun c_4 => absurd c_4 (n_m1 (by omega))) (fun c_4 => ?_)
        refine lv_lload_n hx hb d_MO_told_58 rfl (lv_at hl 3 rfl) ?_
        refine f_calli hI (f_runS C hI (c_MO_isDay l G h _ on) gm_MO_isDay w_999 w_998 rfl hl.1 rfl (Nat.le_of_ble_eq_true rfl) ⟨Nat.le_of_ble_eq_true rfl, Nat.le_of_ble_eq_true rfl⟩ d_MO_told_59 ⟨Nat.le_of_ble_eq_true rfl, Nat.le_of_ble_eq_true rfl⟩) (fun r_5 h8 H9 locs hp9 hX9 hz9 hI => ?_)
        obtain ⟨rfl, e9⟩ := hp9
        rw [e9] at hI
        clear hX9 e9
        rw [day_bad (hbad.resolve_left (by rw [el]; exact fun q => by cases q))]
        refine lv_if_ne (tgt := 67) hx hb d_MO_told_62 (by decide) (fun c_6 => absurd rfl c_6) (fun c_6 => ?_)
        refine lv_iconst (v := 0) hx hb d_MO_told_65 (by decide) ?_
        exact f_zret C hr rfl hI ⟨rfl, rfl⟩ hX (Nat.le_refl _) (Nat.le_refl _) d_MO_told_66
    | succ k ih =>
      intro n hn ls hl
      have hn2 : n < nf := by omega
      have ih : ∀ n : Nat, n + k = nf → ∀ ls : Array Slot, lv_has ls 7 [(0, .ref x), (1, .int lot), (2, .int kd), (3, .long on), (5, .int (oN (lst (lP fl fk lot kd) n))), (6, .int (nI n))] → W p l e { frames := 1, cells := 0, slots := 0, locals := 21 } s m ([.ref x, .int lot, .int kd, .long on] : List Value).toArray below meth c s.heap [] 0 0 (MQ below (cQi G h sz (fun r h' => r = 0 ∧ h' = h)) ([.ref x, .int lot, .int kd, .long on] : List Value).toArray s 0 0 (fA h sz)) (F0 m 6 ls []) := ih
      refine lv_iload hx hb d_MO_told_6 (lv_at hl 5 rfl) ?_
      refine lv_aload_n hx hb d_MO_told_8 rfl (lv_at hl 0 rfl) ?_
      refine f_get (C := "DutyRulesModel") (T := T_MO) (N := 40) hx hb (fun w q => hT w (s_MO w q)) hown hK hI g_x rfl 12 (by decide) (hT _ w_821) (fun _ q => q) (mo_get (by decide) v_12) d_MO_told_9 ?_
      refine lv_icmp_ge (tgt := 52) hx hb d_MO_told_12 (by decide) (fun c_7 => absurd c_7 (fun q => absurd ((n_le (by omega) (by omega)).mp q) (by omega))) (fun c_7 => ?_)
      refine lv_aload_n hx hb d_MO_told_15 rfl (lv_at hl 0 rfl) ?_
      refine f_get (C := "DutyRulesModel") (T := T_MO) (N := 40) hx hb (fun w q => hT w (s_MO w q)) hown hK hI g_x rfl 7 (by decide) (hT _ w_816) (fun _ q => q) (mo_get (by decide) v_7) d_MO_told_16 ?_
      refine lv_iload hx hb d_MO_told_19 (lv_at hl 5 rfl) ?_
      refine f_ialdn (k := n) (v := (nI (fl n))) hx hb hI g_a7 (fT.ofK hK (t0 := 0) rfl) (by omega) (by omega) rfl d_MO_told_21 ?_
      refine lv_iload_n hx hb d_MO_told_22 rfl (lv_at hl 1 rfl) ?_
      refine lv_icmp_ne (tgt := 42) hx hb d_MO_told_23 (by decide) (fun c_8 => ?_) (fun c_8 => ?_)
      · skip
        refine lv_iload hx hb d_MO_told_42 (lv_at hl 4 rfl) ?_
        refine lv_istore (lv' := [(5, .int (oN (lst (lP fl fk lot kd) n))), (0, .ref x), (1, .int lot), (2, .int kd), (3, .long on), (6, .int (nI n))]) hx hb d_MO_told_44 hl (by decide) rfl (fun ls hl => ?_)
        refine lv_iinc (v := nI (n + 1)) (lv' := [(6, .int (nI (n + 1))), (5, .int (oN (lst (lP fl fk lot kd) n))), (0, .ref x), (1, .int lot), (2, .int kd), (3, .long on)]) hx hb d_MO_told_46 hl (k := 5) rfl (f_inc1 _) (by decide) rfl (fun ls hl => ?_)
        refine lv_goto (tgt := 6) hx hb d_MO_told_49 (by decide) ?_
        refine ih (n + 1) (by omega) ls ?_
        rw [show lst (lP fl fk lot kd) (n + 1) = lst (lP fl fk lot kd) n from if_neg (fun q => by have q2 := of_decide_eq_true q; exact c_8 q2.1)]
        exact lv_sub hl [2, 3, 4, 5, 1, 0] rfl
      · skip
        refine lv_aload_n hx hb d_MO_told_26 rfl (lv_at hl 0 rfl) ?_
        refine f_get (C := "DutyRulesModel") (T := T_MO) (N := 40) hx hb (fun w q => hT w (s_MO w q)) hown hK hI g_x rfl 8 (by decide) (hT _ w_817) (fun _ q => q) (mo_get (by decide) v_8) d_MO_told_27 ?_
        refine lv_iload hx hb d_MO_told_30 (lv_at hl 5 rfl) ?_
        refine f_ialdn (k := n) (v := (nI (fk n))) hx hb hI g_a8 (fT.ofK hK (t0 := 0) rfl) (by omega) (by omega) rfl d_MO_told_32 ?_
        refine lv_iload_n hx hb d_MO_told_33 rfl (lv_at hl 2 rfl) ?_
        refine lv_icmp_ne (tgt := 42) hx hb d_MO_told_34 (by decide) (fun c_9 => ?_) (fun c_9 => ?_)
        · skip
          refine lv_iload hx hb d_MO_told_42 (lv_at hl 4 rfl) ?_
          refine lv_istore (lv' := [(5, .int (oN (lst (lP fl fk lot kd) n))), (0, .ref x), (1, .int lot), (2, .int kd), (3, .long on), (6, .int (nI n))]) hx hb d_MO_told_44 hl (by decide) rfl (fun ls hl => ?_)
          refine lv_iinc (v := nI (n + 1)) (lv' := [(6, .int (nI (n + 1))), (5, .int (oN (lst (lP fl fk lot kd) n))), (0, .ref x), (1, .int lot), (2, .int kd), (3, .long on)]) hx hb d_MO_told_46 hl (k := 5) rfl (f_inc1 _) (by decide) rfl (fun ls hl => ?_)
          refine lv_goto (tgt := 6) hx hb d_MO_told_49 (by decide) ?_
          refine ih (n + 1) (by omega) ls ?_
          rw [show lst (lP fl fk lot kd) (n + 1) = lst (lP fl fk lot kd) n from if_neg (fun q => by have q2 := of_decide_eq_true q; exact c_9 q2.2)]
          exact lv_sub hl [2, 3, 4, 5, 1, 0] rfl
        · skip
          refine lv_iload hx hb d_MO_told_37 (lv_at hl 5 rfl) ?_
          refine lv_goto (tgt := 44) hx hb d_MO_told_39 (by decide) ?_
          refine lv_istore (lv' := [(5, .int (nI n)), (0, .ref x), (1, .int lot), (2, .int kd), (3, .long on), (6, .int (nI n))]) hx hb d_MO_told_44 hl (by decide) rfl (fun ls hl => ?_)
          refine lv_iinc (v := nI (n + 1)) (lv' := [(6, .int (nI (n + 1))), (5, .int (nI n)), (0, .ref x), (1, .int lot), (2, .int kd), (3, .long on)]) hx hb d_MO_told_46 hl (k := 5) rfl (f_inc1 _) (by decide) rfl (fun ls hl => ?_)
          refine lv_goto (tgt := 6) hx hb d_MO_told_49 (by decide) ?_
          refine ih (n + 1) (by omega) ls ?_
          rw [show lst (lP fl fk lot kd) (n + 1) = some n from if_pos (decide_eq_true ⟨c_8, c_9⟩)]
          exact lv_sub hl [2, 3, 4, 5, 1, 0] rfl
  refine lv_iconst (v := (-1)) hx hb d_MO_told_0 (by decide) ?_
  refine lv_istore (lv' := [(5, .int (-1)), (0, .ref x), (1, .int lot), (2, .int kd), (3, .long on)]) hx hb d_MO_told_1 hl (by decide) rfl (fun ls hl => ?_)
  refine lv_iconst (v := 0) hx hb d_MO_told_3 (by decide) ?_
  refine lv_istore (lv' := [(6, .int 0), (5, .int (-1)), (0, .ref x), (1, .int lot), (2, .int kd), (3, .long on)]) hx hb d_MO_told_4 hl (by decide) rfl (fun ls hl => ?_)
  refine LOOP nf 0 (by omega) ls ?_
  exact lv_sub hl [2, 3, 4, 5, 1, 0] rfl
set_option maxHeartbeats 4000000 in
set_option maxRecDepth 100000 in
/-- MO_told  -/
theorem c_MO_told_ok (l : Launch) (G : gG) (h : fH) (sz : Nat) (x : Nat) (lot kd : Int32) (mf : Nat → Value) (g_x : h x = some (40, 0, .inr (8, mo mf))) (nf : Nat) (fl fk fd fw fv : Nat → Nat) (hFc : mFc G h mf nf fl fk fd fw fv) (la : Nat) (v_13 : mf 13 = .long (lN la)) (bla : la ≤ 100000) (o9 f : Nat) (bo : o9 ≤ 100000) (hlst : lst (lP fl fk lot kd) nf = some f) : cM l y_MO_told b_MO_told 7 (some .boolean) { frames := 1, cells := 0, slots := 0, locals := 21 } G [.ref x, .int lot, .int kd, .long (lN o9)] h sz (cQi G h sz (fun r h' => r = 1 ∧ ∃ mf', h' x = some (40, 0, .inr (8, mo mf')) ∧ (∀ j, j ≠ 13 → mf' j = mf j) ∧ mFc G h' mf' nf fl fk fd (va_up fw f o9) fv ∧ mf' 13 = .long (lN (max la o9)) ∧ fF (inR [40, 51]) h h')) := by
  refine f_start (by decide) (Nat.le_of_ble_eq_true rfl) ?_
  intro p e s m below meth c ls C hr hsz hI hl
  obtain ⟨hx, hb, hml, hown, hnm, hlk, hT, hG, hZ⟩ := id C
  have hK := hG.1
  have hX : fX h sz h := fX.rf
  have hl : lv_has ls 7 [(0, .ref x), (1, .int lot), (2, .int kd), (3, .long (lN o9))] := hl
  obtain ⟨a7, a8, a9, a10, a11, ⟨v_7, v_8, v_9, v_10, v_11, v_12⟩, ⟨g_a7, g_a8, g_a9, g_a10, g_a11⟩, bnf, bfl, bfk, bfd, bfw, bfv0⟩ := hFc
  have LOOP : ∀ (k n : Nat), n + k = nf → ∀ ls : Array Slot, lv_has ls 7 [(0, .ref x), (1, .int lot), (2, .int kd), (3, .long (lN o9)), (5, .int (oN (lst (lP fl fk lot kd) n))), (6, .int (nI n))] → W p l e { frames := 1, cells := 0, slots := 0, locals := 21 } s m ([.ref x, .int lot, .int kd, .long (lN o9)] : List Value).toArray below meth c s.heap [] 0 0 (MQ below (cQi G h sz (fun r h' => r = 1 ∧ ∃ mf', h' x = some (40, 0, .inr (8, mo mf')) ∧ (∀ j, j ≠ 13 → mf' j = mf j) ∧ mFc G h' mf' nf fl fk fd (va_up fw f o9) fv ∧ mf' 13 = .long (lN (max la o9)) ∧ fF (inR [40, 51]) h h')) ([.ref x, .int lot, .int kd, .long (lN o9)] : List Value).toArray s 0 0 (fA h sz)) (F0 m 6 ls []) := by
    intro k
    induction k with
    | zero =>
      intro n hn ls hl
      have hn2 : nf = n := by omega
      subst hn2
      rw [hlst] at hl
      have hl : lv_has ls 7 [(0, .ref x), (1, .int lot), (2, .int kd), (3, .long (lN o9)), (5, .int (nI f)), (6, .int (nI nf))] := hl
      have hf := lst_in hlst
      have hF : fF (inR [40, 51]) h h := fF.rf
      refine lv_iload hx hb d_MO_told_6 (lv_at hl 5 rfl) ?_
      refine lv_aload_n hx hb d_MO_told_8 rfl (lv_at hl 0 rfl) ?_
      refine f_get (C := "DutyRulesModel") (T := T_MO) (N := 40) hx hb (fun w q => hT w (s_MO w q)) hown hK hI g_x rfl 12 (by decide) (hT _ w_821) (fun _ q => q) (mo_get (by decide) v_12) d_MO_told_9 ?_
      refine lv_icmp_ge (tgt := 52) hx hb d_MO_told_12 (by decide) (fun c_1 => ?_) (fun c_1 => absurd (l_rfI _) c_1)
      refine lv_iload hx hb d_MO_told_52 (lv_at hl 4 rfl) ?_
      refine lv_iconst (v := (-1)) hx hb d_MO_told_54 (by decide) ?_
      refine lv_icmp_eq (tgt := 65) hx hb d_MO_told_55 (by decide) (fun c_2 => absurd c_2 (n_m1 (by omega))) (fun c_2 => ?_)
      refine lv_lload_n hx hb d_MO_told_58 rfl (lv_at hl 3 rfl) ?_
      refine f_calli hI (f_runS C hI (c_MO_isDay l G h _ (lN o9)) gm_MO_isDay w_999 w_998 rfl hl.1 rfl (Nat.le_of_ble_eq_true rfl) ⟨Nat.le_of_ble_eq_true rfl, Nat.le_of_ble_eq_true rfl⟩ d_MO_told_59 ⟨Nat.le_of_ble_eq_true rfl, Nat.le_of_ble_eq_true rfl⟩) (fun r_3 h8 H9 locs hp9 hX9 hz9 hI => ?_)
      obtain ⟨rfl, e9⟩ := hp9
      rw [e9] at hI
      clear hX9 e9
      refine f_asi (day_ok (d := o9) (n := 100000) bo (by decide)) ?_
      refine lv_if_ne (tgt := 67) hx hb d_MO_told_62 (by decide) (fun c_4 => ?_) (fun c_4 => absurd c_4 (by decide))
      refine lv_aload_n hx hb d_MO_told_67 rfl (lv_at hl 0 rfl) ?_
      refine f_get (C := "DutyRulesModel") (T := T_MO) (N := 40) hx hb (fun w q => hT w (s_MO w q)) hown hK hI g_x rfl 10 (by decide) (hT _ w_819) (fun _ q => q) (mo_get (by decide) v_10) d_MO_told_68 ?_
      refine lv_iload hx hb d_MO_told_71 (lv_at hl 4 rfl) ?_
      refine lv_lload_n hx hb d_MO_told_73 rfl (lv_at hl 3 rfl) ?_
      refine f_lastn (k := f) (f' := (fun i => lN (va_up fw f o9 i))) hx hb hI g_a10 (by decide) (fT.ofK hK (t0 := 1) rfl) (by omega) (by omega) (up_l fw f o9) d_MO_told_74 (fun H locs hI => ?_)
      generalize eh_5 : fU h a10 (51, 0, .inl ((G.2.1 1), 300, .inr (.inl (fun i => lN (va_up fw f o9 i))))) = h_5 at hI
      have hX := hX.set (e := .inl ((G.2.1 1), 300, .inr (.inl (fun i => lN (va_up fw f o9 i))))) g_a10 (by decide); rw [eh_5] at hX
      have hF := hF.set (e := .inl ((G.2.1 1), 300, .inr (.inl (fun i => lN (va_up fw f o9 i))))) g_a10 (by decide); rw [eh_5] at hF
      have g_a7 : h_5 a7 = some (48, 0, .inl ((G.2.1 0), 300, .inl (fun i => nI (fl i)))) := (congrFun eh_5 a7).symm.trans (fU_keep g_a7 (f_neR g_a7 g_a10 (by decide)))
      have g_a8 : h_5 a8 = some (49, 0, .inl ((G.2.1 0), 300, .inl (fun i => nI (fk i)))) := (congrFun eh_5 a8).symm.trans (fU_keep g_a8 (f_neR g_a8 g_a10 (by decide)))
      have g_a9 : h_5 a9 = some (50, 0, .inl ((G.2.1 1), 300, .inr (.inl (fun i => lN (fd i))))) := (congrFun eh_5 a9).symm.trans (fU_keep g_a9 (f_neR g_a9 g_a10 (by decide)))
      have g_a11 : h_5 a11 = some (52, 0, .inl ((G.2.1 1), 300, .inr (.inl (fun i => lN (fv i))))) := (congrFun eh_5 a11).symm.trans (fU_keep g_a11 (f_neR g_a11 g_a10 (by decide)))
      have g_x : h_5 x = some (40, 0, .inr (8, mo mf)) := (congrFun eh_5 x).symm.trans (fU_keep g_x (f_neR g_x g_a10 (by decide)))
      have g_a10 : h_5 a10 = some (51, 0, .inl ((G.2.1 1), 300, .inr (.inl (fun i => lN (va_up fw f o9 i))))) := (congrFun eh_5 a10).symm.trans (fU_self _ _ _)
      refine lv_aload_n hx hb d_MO_told_75 rfl (lv_at hl 0 rfl) ?_
      refine lv_lload_n hx hb d_MO_told_76 rfl (lv_at hl 3 rfl) ?_
      refine lv_aload_n hx hb d_MO_told_77 rfl (lv_at hl 0 rfl) ?_
      refine f_get (C := "DutyRulesModel") (T := T_MO) (N := 40) hx hb (fun w q => hT w (s_MO w q)) hown hK hI g_x rfl 13 (by decide) (hT _ w_822) (fun _ q => q) (mo_get (by decide) v_13) d_MO_told_78 ?_
      refine f_lc_le (tgt := 89) hx hb d_MO_told_81 d_MO_told_82 (by decide) (fun c_6 => ?_) (fun c_6 => ?_)
      · have c_6 : o9 ≤ la := (pk_lLE (a := o9) (b := la) (by omega) (by omega)).mp c_6
        refine lv_aload_n hx hb d_MO_told_89 rfl (lv_at hl 0 rfl) ?_
        refine f_get (C := "DutyRulesModel") (T := T_MO) (N := 40) hx hb (fun w q => hT w (s_MO w q)) hown hK hI g_x rfl 13 (by decide) (hT _ w_822) (fun _ q => q) (mo_get (by decide) v_13) d_MO_told_90 ?_
        refine f_put (C := "DutyRulesModel") (T := T_MO) (N := 40) (fs' := mo (va_up mf 13 (.long (lN la)))) (v := .long (lN la)) hx hb (fun w q => hT w (s_MO w q)) t_MO k_MO n_MO hown hK hI g_x (by decide) rfl 13 (by decide) (hT _ w_822) (fun _ q => q) rfl rfl rfl (by rw [mo_len]; decide) (mo_set _) d_MO_told_93 (fun H locs hI => ?_)
        generalize emf_7 : va_up mf 13 (.long (lN la)) = mf_7 at hI
        have v_7 : mf_7 7 = .ref a7 := (congrFun emf_7 7).symm.trans ((va_up_ne _ _ (by decide)).trans v_7)
        have v_8 : mf_7 8 = .ref a8 := (congrFun emf_7 8).symm.trans ((va_up_ne _ _ (by decide)).trans v_8)
        have v_9 : mf_7 9 = .ref a9 := (congrFun emf_7 9).symm.trans ((va_up_ne _ _ (by decide)).trans v_9)
        have v_10 : mf_7 10 = .ref a10 := (congrFun emf_7 10).symm.trans ((va_up_ne _ _ (by decide)).trans v_10)
        have v_11 : mf_7 11 = .ref a11 := (congrFun emf_7 11).symm.trans ((va_up_ne _ _ (by decide)).trans v_11)
        have v_12 : mf_7 12 = .int (nI nf) := (congrFun emf_7 12).symm.trans ((va_up_ne _ _ (by decide)).trans v_12)
        have v_13 : mf_7 13 = .long (lN la) := (congrFun emf_7 13).symm.trans (va_up_self _ _ _)
        generalize eh_8 : fU h_5 x (40, 0, .inr (8, mo mf_7)) = h_8 at hI
        have hX := hX.set (e := .inr (8, mo mf_7)) g_x (by decide); rw [eh_8] at hX
        have hF := hF.set (e := .inr (8, mo mf_7)) g_x (by decide); rw [eh_8] at hF
        have g_a7 : h_8 a7 = some (48, 0, .inl ((G.2.1 0), 300, .inl (fun i => nI (fl i)))) := (congrFun eh_8 a7).symm.trans (fU_keep g_a7 (f_neR g_a7 g_x (by decide)))
        have g_a8 : h_8 a8 = some (49, 0, .inl ((G.2.1 0), 300, .inl (fun i => nI (fk i)))) := (congrFun eh_8 a8).symm.trans (fU_keep g_a8 (f_neR g_a8 g_x (by decide)))
        have g_a9 : h_8 a9 = some (50, 0, .inl ((G.2.1 1), 300, .inr (.inl (fun i => lN (fd i))))) := (congrFun eh_8 a9).symm.trans (fU_keep g_a9 (f_neR g_a9 g_x (by decide)))
        have g_a10 : h_8 a10 = some (51, 0, .inl ((G.2.1 1), 300, .inr (.inl (fun i => lN (va_up fw f o9 i))))) := (congrFun eh_8 a10).symm.trans (fU_keep g_a10 (f_neR g_a10 g_x (by decide)))
        have g_a11 : h_8 a11 = some (52, 0, .inl ((G.2.1 1), 300, .inr (.inl (fun i => lN (fv i))))) := (congrFun eh_8 a11).symm.trans (fU_keep g_a11 (f_neR g_a11 g_x (by decide)))
        have g_x : h_8 x = some (40, 0, .inr (8, mo mf_7)) := (congrFun eh_8 x).symm.trans (fU_self _ _ _)
        refine lv_iconst (v := 1) hx hb d_MO_told_96 (by decide) ?_
        exact f_zret C hr rfl hI ⟨rfl, mf_7, g_x, fun j hj => (congrFun emf_7 j).symm.trans (va_up_ne _ _ hj), ⟨a7, a8, a9, a10, a11, ⟨v_7, v_8, v_9, v_10, v_11, v_12⟩, ⟨g_a7, g_a8, g_a9, g_a10, g_a11⟩, bnf, bfl, bfk, bfd, up_le bfw bo, bfv0⟩, by rw [v_13]; congr 2; omega, hF⟩ hX (Nat.le_refl _) (Nat.le_refl _) d_MO_told_97
      · have c_6 : ¬ o9 ≤ la := fun q => c_6 ((pk_lLE (a := o9) (b := la) (by omega) (by omega)).mpr q)
        refine lv_lload_n hx hb d_MO_told_85 rfl (lv_at hl 3 rfl) ?_
        refine lv_goto (tgt := 93) hx hb d_MO_told_86 (by decide) ?_
        refine f_put (C := "DutyRulesModel") (T := T_MO) (N := 40) (fs' := mo (va_up mf 13 (.long (lN o9)))) (v := .long (lN o9)) hx hb (fun w q => hT w (s_MO w q)) t_MO k_MO n_MO hown hK hI g_x (by decide) rfl 13 (by decide) (hT _ w_822) (fun _ q => q) rfl rfl rfl (by rw [mo_len]; decide) (mo_set _) d_MO_told_93 (fun H locs hI => ?_)
        generalize emf_9 : va_up mf 13 (.long (lN o9)) = mf_9 at hI
        have v_7 : mf_9 7 = .ref a7 := (congrFun emf_9 7).symm.trans ((va_up_ne _ _ (by decide)).trans v_7)
        have v_8 : mf_9 8 = .ref a8 := (congrFun emf_9 8).symm.trans ((va_up_ne _ _ (by decide)).trans v_8)
        have v_9 : mf_9 9 = .ref a9 := (congrFun emf_9 9).symm.trans ((va_up_ne _ _ (by decide)).trans v_9)
        have v_10 : mf_9 10 = .ref a10 := (congrFun emf_9 10).symm.trans ((va_up_ne _ _ (by decide)).trans v_10)
        have v_11 : mf_9 11 = .ref a11 := (congrFun emf_9 11).symm.trans ((va_up_ne _ _ (by decide)).trans v_11)
        have v_12 : mf_9 12 = .int (nI nf) := (congrFun emf_9 12).symm.trans ((va_up_ne _ _ (by decide)).trans v_12)
        have v_13 : mf_9 13 = .long (lN o9) := (congrFun emf_9 13).symm.trans (va_up_self _ _ _)
        generalize eh_10 : fU h_5 x (40, 0, .inr (8, mo mf_9)) = h_10 at hI
        have hX := hX.set (e := .inr (8, mo mf_9)) g_x (by decide); rw [eh_10] at hX
        have hF := hF.set (e := .inr (8, mo mf_9)) g_x (by decide); rw [eh_10] at hF
        have g_a7 : h_10 a7 = some (48, 0, .inl ((G.2.1 0), 300, .inl (fun i => nI (fl i)))) := (congrFun eh_10 a7).symm.trans (fU_keep g_a7 (f_neR g_a7 g_x (by decide)))
        have g_a8 : h_10 a8 = some (49, 0, .inl ((G.2.1 0), 300, .inl (fun i => nI (fk i)))) := (congrFun eh_10 a8).symm.trans (fU_keep g_a8 (f_neR g_a8 g_x (by decide)))
        have g_a9 : h_10 a9 = some (50, 0, .inl ((G.2.1 1), 300, .inr (.inl (fun i => lN (fd i))))) := (congrFun eh_10 a9).symm.trans (fU_keep g_a9 (f_neR g_a9 g_x (by decide)))
        have g_a10 : h_10 a10 = some (51, 0, .inl ((G.2.1 1), 300, .inr (.inl (fun i => lN (va_up fw f o9 i))))) := (congrFun eh_10 a10).symm.trans (fU_keep g_a10 (f_neR g_a10 g_x (by decide)))
        have g_a11 : h_10 a11 = some (52, 0, .inl ((G.2.1 1), 300, .inr (.inl (fun i => lN (fv i))))) := (congrFun eh_10 a11).symm.trans (fU_keep g_a11 (f_neR g_a11 g_x (by decide)))
        have g_x : h_10 x = some (40, 0, .inr (8, mo mf_9)) := (congrFun eh_10 x).symm.trans (fU_self _ _ _)
        refine lv_iconst (v := 1) hx hb d_MO_told_96 (by decide) ?_
        exact f_zret C hr rfl hI ⟨rfl, mf_9, g_x, fun j hj => (congrFun emf_9 j).symm.trans (va_up_ne _ _ hj), ⟨a7, a8, a9, a10, a11, ⟨v_7, v_8, v_9, v_10, v_11, v_12⟩, ⟨g_a7, g_a8, g_a9, g_a10, g_a11⟩, bnf, bfl, bfk, bfd, up_le bfw bo, bfv0⟩, by rw [v_13]; congr 2; omega, hF⟩ hX (Nat.le_refl _) (Nat.le_refl _) d_MO_told_97
    | succ k ih =>
      intro n hn ls hl
      have hn2 : n < nf := by omega
      have ih : ∀ n : Nat, n + k = nf → ∀ ls : Array Slot, lv_has ls 7 [(0, .ref x), (1, .int lot), (2, .int kd), (3, .long (lN o9)), (5, .int (oN (lst (lP fl fk lot kd) n))), (6, .int (nI n))] → W p l e { frames := 1, cells := 0, slots := 0, locals := 21 } s m ([.ref x, .int lot, .int kd, .long (lN o9)] : List Value).toArray below meth c s.heap [] 0 0 (MQ below (cQi G h sz (fun r h' => r = 1 ∧ ∃ mf', h' x = some (40, 0, .inr (8, mo mf')) ∧ (∀ j, j ≠ 13 → mf' j = mf j) ∧ mFc G h' mf' nf fl fk fd (va_up fw f o9) fv ∧ mf' 13 = .long (lN (max la o9)) ∧ fF (inR [40, 51]) h h')) ([.ref x, .int lot, .int kd, .long (lN o9)] : List Value).toArray s 0 0 (fA h sz)) (F0 m 6 ls []) := ih
      refine lv_iload hx hb d_MO_told_6 (lv_at hl 5 rfl) ?_
      refine lv_aload_n hx hb d_MO_told_8 rfl (lv_at hl 0 rfl) ?_
      refine f_get (C := "DutyRulesModel") (T := T_MO) (N := 40) hx hb (fun w q => hT w (s_MO w q)) hown hK hI g_x rfl 12 (by decide) (hT _ w_821) (fun _ q => q) (mo_get (by decide) v_12) d_MO_told_9 ?_
      refine lv_icmp_ge (tgt := 52) hx hb d_MO_told_12 (by decide) (fun c_11 => absurd c_11 (fun q => absurd ((n_le (by omega) (by omega)).mp q) (by omega))) (fun c_11 => ?_)
      refine lv_aload_n hx hb d_MO_told_15 rfl (lv_at hl 0 rfl) ?_
      refine f_get (C := "DutyRulesModel") (T := T_MO) (N := 40) hx hb (fun w q => hT w (s_MO w q)) hown hK hI g_x rfl 7 (by decide) (hT _ w_816) (fun _ q => q) (mo_get (by decide) v_7) d_MO_told_16 ?_
      refine lv_iload hx hb d_MO_told_19 (lv_at hl 5 rfl) ?_
      refine f_ialdn (k := n) (v := (nI (fl n))) hx hb hI g_a7 (fT.ofK hK (t0 := 0) rfl) (by omega) (by omega) rfl d_MO_told_21 ?_
      refine lv_iload_n hx hb d_MO_told_22 rfl (lv_at hl 1 rfl) ?_
      refine lv_icmp_ne (tgt := 42) hx hb d_MO_told_23 (by decide) (fun c_12 => ?_) (fun c_12 => ?_)
      · skip
        refine lv_iload hx hb d_MO_told_42 (lv_at hl 4 rfl) ?_
        refine lv_istore (lv' := [(5, .int (oN (lst (lP fl fk lot kd) n))), (0, .ref x), (1, .int lot), (2, .int kd), (3, .long (lN o9)), (6, .int (nI n))]) hx hb d_MO_told_44 hl (by decide) rfl (fun ls hl => ?_)
        refine lv_iinc (v := nI (n + 1)) (lv' := [(6, .int (nI (n + 1))), (5, .int (oN (lst (lP fl fk lot kd) n))), (0, .ref x), (1, .int lot), (2, .int kd), (3, .long (lN o9))]) hx hb d_MO_told_46 hl (k := 5) rfl (f_inc1 _) (by decide) rfl (fun ls hl => ?_)
        refine lv_goto (tgt := 6) hx hb d_MO_told_49 (by decide) ?_
        refine ih (n + 1) (by omega) ls ?_
        rw [show lst (lP fl fk lot kd) (n + 1) = lst (lP fl fk lot kd) n from if_neg (fun q => by have q2 := of_decide_eq_true q; exact c_12 q2.1)]
        exact lv_sub hl [2, 3, 4, 5, 1, 0] rfl
      · skip
        refine lv_aload_n hx hb d_MO_told_26 rfl (lv_at hl 0 rfl) ?_
        refine f_get (C := "DutyRulesModel") (T := T_MO) (N := 40) hx hb (fun w q => hT w (s_MO w q)) hown hK hI g_x rfl 8 (by decide) (hT _ w_817) (fun _ q => q) (mo_get (by decide) v_8) d_MO_told_27 ?_
        refine lv_iload hx hb d_MO_told_30 (lv_at hl 5 rfl) ?_
        refine f_ialdn (k := n) (v := (nI (fk n))) hx hb hI g_a8 (fT.ofK hK (t0 := 0) rfl) (by omega) (by omega) rfl d_MO_told_32 ?_
        refine lv_iload_n hx hb d_MO_told_33 rfl (lv_at hl 2 rfl) ?_
        refine lv_icmp_ne (tgt := 42) hx hb d_MO_told_34 (by decide) (fun c_13 => ?_) (fun c_13 => ?_)
        · skip
          refine lv_iload hx hb d_MO_told_42 (lv_at hl 4 rfl) ?_
          refine lv_istore (lv' := [(5, .int (oN (lst (lP fl fk lot kd) n))), (0, .ref x), (1, .int lot), (2, .int kd), (3, .long (lN o9)), (6, .int (nI n))]) hx hb d_MO_told_44 hl (by decide) rfl (fun ls hl => ?_)
          refine lv_iinc (v := nI (n + 1)) (lv' := [(6, .int (nI (n + 1))), (5, .int (oN (lst (lP fl fk lot kd) n))), (0, .ref x), (1, .int lot), (2, .int kd), (3, .long (lN o9))]) hx hb d_MO_told_46 hl (k := 5) rfl (f_inc1 _) (by decide) rfl (fun ls hl => ?_)
          refine lv_goto (tgt := 6) hx hb d_MO_told_49 (by decide) ?_
          refine ih (n + 1) (by omega) ls ?_
          rw [show lst (lP fl fk lot kd) (n + 1) = lst (lP fl fk lot kd) n from if_neg (fun q => by have q2 := of_decide_eq_true q; exact c_13 q2.2)]
          exact lv_sub hl [2, 3, 4, 5, 1, 0] rfl
        · skip
          refine lv_iload hx hb d_MO_told_37 (lv_at hl 5 rfl) ?_
          refine lv_goto (tgt := 44) hx hb d_MO_told_39 (by decide) ?_
          refine lv_istore (lv' := [(5, .int (nI n)), (0, .ref x), (1, .int lot), (2, .int kd), (3, .long (lN o9)), (6, .int (nI n))]) hx hb d_MO_told_44 hl (by decide) rfl (fun ls hl => ?_)
          refine lv_iinc (v := nI (n + 1)) (lv' := [(6, .int (nI (n + 1))), (5, .int (nI n)), (0, .ref x), (1, .int lot), (2, .int kd), (3, .long (lN o9))]) hx hb d_MO_told_46 hl (k := 5) rfl (f_inc1 _) (by decide) rfl (fun ls hl => ?_)
          refine lv_goto (tgt := 6) hx hb d_MO_told_49 (by decide) ?_
          refine ih (n + 1) (by omega) ls ?_
          rw [show lst (lP fl fk lot kd) (n + 1) = some n from if_pos (decide_eq_true ⟨c_12, c_13⟩)]
          exact lv_sub hl [2, 3, 4, 5, 1, 0] rfl
  refine lv_iconst (v := (-1)) hx hb d_MO_told_0 (by decide) ?_
  refine lv_istore (lv' := [(5, .int (-1)), (0, .ref x), (1, .int lot), (2, .int kd), (3, .long (lN o9))]) hx hb d_MO_told_1 hl (by decide) rfl (fun ls hl => ?_)
  refine lv_iconst (v := 0) hx hb d_MO_told_3 (by decide) ?_
  refine lv_istore (lv' := [(6, .int 0), (5, .int (-1)), (0, .ref x), (1, .int lot), (2, .int kd), (3, .long (lN o9))]) hx hb d_MO_told_4 hl (by decide) rfl (fun ls hl => ?_)
  refine LOOP nf 0 (by omega) ls ?_
  exact lv_sub hl [2, 3, 4, 5, 1, 0] rfl
theorem gm_MO_step2 : gM y_MO_step2 b_MO_step2 4 (some .int) 3 := ⟨w_1060, w_10, ⟨by decide, by decide⟩, by decide +kernel⟩
set_option maxHeartbeats 4000000 in
set_option maxRecDepth 100000 in
/-- MO_step2  -/
theorem c_MO_step2_no (l : Launch) (G : gG) (h : fH) (sz : Nat) (x : Nat) (lot k wh : Int32) (mf : Nat → Value) (g_x : h x = some (40, 0, .inr (8, mo mf))) (sL sR : Int32) (L : List (Nat × Nat × Nat)) (hSh : mSh G h mf sL sR L) (hbad : ¬ lot = sL ∨ k < 0 ∨ ¬ k < nI L.length) : cM l y_MO_step2 b_MO_step2 4 (some .int) { frames := 1, cells := 0, slots := 0, locals := 23 } G [.ref x, .int lot, .int k, .int wh] h sz (cQi G h sz (fun r h' => r = -1 ∧ h' = h)) := by
  refine f_start (by decide) (Nat.le_of_ble_eq_true rfl) ?_
  intro p e s m below meth c ls C hr hsz hI hl
  obtain ⟨hx, hb, hml, hown, hnm, hlk, hT, hG, hZ⟩ := id C
  have hK := hG.1
  have hX : fX h sz h := fX.rf
  have hl : lv_has ls 4 [(0, .ref x), (1, .int lot), (2, .int k), (3, .int wh)] := hl
  obtain ⟨a24, a25, a26, sl, sr, sc, ⟨v_21, v_22, v_23, v_24, v_25, v_26⟩, ⟨g_a24, g_a25, g_a26⟩, bL, hq⟩ := hSh
  refine lv_iload_n hx hb d_MO_step2_0 rfl (lv_at hl 1 rfl) ?_
  refine lv_aload_n hx hb d_MO_step2_1 rfl (lv_at hl 0 rfl) ?_
  refine f_get (C := "DutyRulesModel") (T := T_MO) (N := 40) hx hb (fun w q => hT w (s_MO w q)) hown hK hI g_x rfl 21 (by decide) (hT _ w_830) (fun _ q => q) (mo_get (by decide) v_21) d_MO_step2_2 ?_
  refine lv_icmp_ne (tgt := 20) hx hb d_MO_step2_5 (by decide) (fun c_1 => ?_) (fun c_1 => ?_)
  · skip
    refine lv_iconst (v := (-1)) hx hb d_MO_step2_20 (by decide) ?_
    exact f_iret C hr hI ⟨rfl, rfl⟩ hX (Nat.le_refl _) (Nat.le_refl _) d_MO_step2_21
  · skip
    refine lv_iload_n hx hb d_MO_step2_8 rfl (lv_at hl 2 rfl) ?_
    refine lv_if_lt (tgt := 20) hx hb d_MO_step2_9 (by decide) (fun c_2 => ?_) (fun c_2 => ?_)
    · skip
      refine lv_iconst (v := (-1)) hx hb d_MO_step2_20 (by decide) ?_
      exact f_iret C hr hI ⟨rfl, rfl⟩ hX (Nat.le_refl _) (Nat.le_refl _) d_MO_step2_21
    · skip
      refine lv_iload_n hx hb d_MO_step2_12 rfl (lv_at hl 2 rfl) ?_
      refine lv_aload_n hx hb d_MO_step2_13 rfl (lv_at hl 0 rfl) ?_
      refine f_get (C := "DutyRulesModel") (T := T_MO) (N := 40) hx hb (fun w q => hT w (s_MO w q)) hown hK hI g_x rfl 23 (by decide) (hT _ w_832) (fun _ q => q) (mo_get (by decide) v_23) d_MO_step2_14 ?_
      refine lv_icmp_lt (tgt := 22) hx hb d_MO_step2_17 (by decide) (fun c_3 => ?_) (fun c_3 => ?_)
      · skip
        exfalso
        rcases hbad with q | q | q
        · exact q c_1
        · exact c_2 q
        · exact q c_3
      · skip
        refine lv_iconst (v := (-1)) hx hb d_MO_step2_20 (by decide) ?_
        exact f_iret C hr hI ⟨rfl, rfl⟩ hX (Nat.le_refl _) (Nat.le_refl _) d_MO_step2_21
set_option maxHeartbeats 4000000 in
set_option maxRecDepth 100000 in
/-- MO_step2  -/
theorem c_MO_step2_ok (l : Launch) (G : gG) (h : fH) (sz : Nat) (x j : Nat) (wh : Int32) (q : Nat × Nat × Nat) (mf : Nat → Value) (g_x : h x = some (40, 0, .inr (8, mo mf))) (sL sR : Int32) (L : List (Nat × Nat × Nat)) (hSh : mSh G h mf sL sR L) (hj : L[j]? = some q) (bq : q.2.2 < 2 ^ 63) : cM l y_MO_step2 b_MO_step2 4 (some .int) { frames := 1, cells := 0, slots := 0, locals := 23 } G [.ref x, .int sL, .int (nI j), .int wh] h sz (cQi G h sz (fun r h' => r = (if wh = 0 then nI q.1 else (if wh = 1 then nI q.2.1 else (if wh = 2 then nI (min q.2.2 2147483647) else -1))) ∧ h' = h)) := by
  refine f_start (by decide) (Nat.le_of_ble_eq_true rfl) ?_
  intro p e s m below meth c ls C hr hsz hI hl
  obtain ⟨hx, hb, hml, hown, hnm, hlk, hT, hG, hZ⟩ := id C
  have hK := hG.1
  have hX : fX h sz h := fX.rf
  have hl : lv_has ls 4 [(0, .ref x), (1, .int sL), (2, .int (nI j)), (3, .int wh)] := hl
  obtain ⟨a24, a25, a26, sl, sr, sc, ⟨v_21, v_22, v_23, v_24, v_25, v_26⟩, ⟨g_a24, g_a25, g_a26⟩, bL, hq⟩ := hSh
  have hjl := (List.getElem?_eq_some_iff.mp hj).1
  have hqq := hq j q hj
  have hsc : sc j < 2 ^ 63 := by rw [hqq.2.2]; exact bq
  refine lv_iload_n hx hb d_MO_step2_0 rfl (lv_at hl 1 rfl) ?_
  refine lv_aload_n hx hb d_MO_step2_1 rfl (lv_at hl 0 rfl) ?_
  refine f_get (C := "DutyRulesModel") (T := T_MO) (N := 40) hx hb (fun w q => hT w (s_MO w q)) hown hK hI g_x rfl 21 (by decide) (hT _ w_830) (fun _ q => q) (mo_get (by decide) v_21) d_MO_step2_2 ?_
  refine lv_icmp_ne (tgt := 20) hx hb d_MO_step2_5 (by decide) (fun c_1 => absurd rfl c_1) (fun c_1 => ?_)
  refine lv_iload_n hx hb d_MO_step2_8 rfl (lv_at hl 2 rfl) ?_
  refine lv_if_lt (tgt := 20) hx hb d_MO_step2_9 (by decide) (fun c_2 => absurd c_2 (nI_pos (by omega))) (fun c_2 => ?_)
  refine lv_iload_n hx hb d_MO_step2_12 rfl (lv_at hl 2 rfl) ?_
  refine lv_aload_n hx hb d_MO_step2_13 rfl (lv_at hl 0 rfl) ?_
  refine f_get (C := "DutyRulesModel") (T := T_MO) (N := 40) hx hb (fun w q => hT w (s_MO w q)) hown hK hI g_x rfl 23 (by decide) (hT _ w_832) (fun _ q => q) (mo_get (by decide) v_23) d_MO_step2_14 ?_
  refine lv_icmp_lt (tgt := 22) hx hb d_MO_step2_17 (by decide) (fun c_3 => ?_) (fun c_3 => absurd ((n_lt (by omega) (by omega)).mpr hjl) c_3)
  refine lv_iload_n hx hb d_MO_step2_22 rfl (lv_at hl 3 rfl) ?_
  refine lv_if_ne (tgt := 35) hx hb d_MO_step2_23 (by decide) (fun c_4 => ?_) (fun c_4 => ?_)
  · skip
    refine lv_iload_n hx hb d_MO_step2_35 rfl (lv_at hl 3 rfl) ?_
    refine lv_iconst (v := 1) hx hb d_MO_step2_36 (by decide) ?_
    refine lv_icmp_ne (tgt := 49) hx hb d_MO_step2_37 (by decide) (fun c_5 => ?_) (fun c_5 => ?_)
    · skip
      refine lv_iload_n hx hb d_MO_step2_49 rfl (lv_at hl 3 rfl) ?_
      refine lv_iconst (v := 2) hx hb d_MO_step2_50 (by decide) ?_
      refine lv_icmp_ne (tgt := 70) hx hb d_MO_step2_51 (by decide) (fun c_6 => ?_) (fun c_6 => ?_)
      · skip
        refine lv_iconst (v := (-1)) hx hb d_MO_step2_70 (by decide) ?_
        exact f_iret C hr hI ⟨by rw [if_neg c_4, if_neg c_5, if_neg c_6] <;> simp only [hqq.1, hqq.2.1, hqq.2.2], rfl⟩ hX (Nat.le_refl _) (Nat.le_refl _) d_MO_step2_71
      · skip
        refine lv_aload_n hx hb d_MO_step2_54 rfl (lv_at hl 0 rfl) ?_
        refine f_get (C := "DutyRulesModel") (T := T_MO) (N := 40) hx hb (fun w q => hT w (s_MO w q)) hown hK hI g_x rfl 26 (by decide) (hT _ w_835) (fun _ q => q) (mo_get (by decide) v_26) d_MO_step2_55 ?_
        refine lv_iload_n hx hb d_MO_step2_58 rfl (lv_at hl 2 rfl) ?_
        refine f_laldn (k := j) (v := (lN (sc j))) hx hb hI g_a26 (fT.ofK hK (t0 := 1) rfl) (by omega) (by omega) rfl d_MO_step2_59 ?_
        refine lv_ldc2 (v := 2147483647) hx hb hown (hT _ w_1061) d_MO_step2_60 ?_
        refine f_calll hI (f_runS C hI (c_MO_least l G h _ (lN (sc j)) 2147483647) gm_MO_least w_1044 w_1043 rfl hl.1 rfl (Nat.le_of_ble_eq_true rfl) ⟨Nat.le_of_ble_eq_true rfl, Nat.le_of_ble_eq_true rfl⟩ d_MO_step2_63 ⟨Nat.le_of_ble_eq_true rfl, Nat.le_of_ble_eq_true rfl⟩) (fun r_7 h8 H9 locs hp9 hX9 hz9 hI => ?_)
        obtain ⟨rfl, e9⟩ := hp9
        rw [e9] at hI
        clear hX9 e9
        refine f_asl (least_min (a := sc j) (b := 2147483647) hsc (by omega)) ?_
        refine lv_l2i (v := nI (min (sc j) 2147483647)) hx hb d_MO_step2_66 (n_l2i _) ?_
        refine lv_goto (tgt := 71) hx hb d_MO_step2_67 (by decide) ?_
        exact f_iret C hr hI ⟨by rw [if_neg c_4, if_neg c_5, if_pos c_6] <;> simp only [hqq.1, hqq.2.1, hqq.2.2], rfl⟩ hX (Nat.le_refl _) (Nat.le_refl _) d_MO_step2_71
    · skip
      refine lv_aload_n hx hb d_MO_step2_40 rfl (lv_at hl 0 rfl) ?_
      refine f_get (C := "DutyRulesModel") (T := T_MO) (N := 40) hx hb (fun w q => hT w (s_MO w q)) hown hK hI g_x rfl 25 (by decide) (hT _ w_834) (fun _ q => q) (mo_get (by decide) v_25) d_MO_step2_41 ?_
      refine lv_iload_n hx hb d_MO_step2_44 rfl (lv_at hl 2 rfl) ?_
      refine f_ialdn (k := j) (v := (nI (sr j))) hx hb hI g_a25 (fT.ofK hK (t0 := 0) rfl) (by omega) (by omega) rfl d_MO_step2_45 ?_
      refine lv_goto (tgt := 71) hx hb d_MO_step2_46 (by decide) ?_
      exact f_iret C hr hI ⟨by rw [if_neg c_4, if_pos c_5] <;> simp only [hqq.1, hqq.2.1, hqq.2.2], rfl⟩ hX (Nat.le_refl _) (Nat.le_refl _) d_MO_step2_71
  · skip
    refine lv_aload_n hx hb d_MO_step2_26 rfl (lv_at hl 0 rfl) ?_
    refine f_get (C := "DutyRulesModel") (T := T_MO) (N := 40) hx hb (fun w q => hT w (s_MO w q)) hown hK hI g_x rfl 24 (by decide) (hT _ w_833) (fun _ q => q) (mo_get (by decide) v_24) d_MO_step2_27 ?_
    refine lv_iload_n hx hb d_MO_step2_30 rfl (lv_at hl 2 rfl) ?_
    refine f_ialdn (k := j) (v := (nI (sl j))) hx hb hI g_a24 (fT.ofK hK (t0 := 0) rfl) (by omega) (by omega) rfl d_MO_step2_31 ?_
    refine lv_goto (tgt := 71) hx hb d_MO_step2_32 (by decide) ?_
    exact f_iret C hr hI ⟨by rw [if_pos c_4] <;> simp only [hqq.1, hqq.2.1, hqq.2.2], rfl⟩ hX (Nat.le_refl _) (Nat.le_refl _) d_MO_step2_71
theorem gm_MO_hasLitres : gM y_MO_hasLitres b_MO_hasLitres 5 (some .boolean) 2 := ⟨w_1082, w_10, ⟨by decide, by decide⟩, by decide +kernel⟩
set_option maxHeartbeats 4000000 in
set_option maxRecDepth 100000 in
/-- MO_hasLitres  -/
theorem c_MO_hasLitres (l : Launch) (G : gG) (h : fH) (sz : Nat) (x lot mo1 : Nat) (mf : Nat → Value) (g_x : h x = some (40, 0, .inr (8, mo mf))) (nf : Nat) (fl fk fd fw fv : Nat → Nat) (hFc : mFc G h mf nf fl fk fd fw fv) (bl31 : lot < 2 ^ 31) (bm31 : mo1 < 2 ^ 31) : cM l y_MO_hasLitres b_MO_hasLitres 5 (some .boolean) { frames := 0, cells := 0, slots := 0, locals := 0 } G [.ref x, .int (nI lot), .int (nI mo1)] h sz (cQi G h sz (fun r h' => r = (if hLt fl fk fd lot mo1 nf = true then 1 else 0) ∧ h' = h)) := by
  refine f_start (by decide) (Nat.le_of_ble_eq_true rfl) ?_
  intro p e s m below meth c ls C hr hsz hI hl
  obtain ⟨hx, hb, hml, hown, hnm, hlk, hT, hG, hZ⟩ := id C
  have hK := hG.1
  have hX : fX h sz h := fX.rf
  have hl : lv_has ls 5 [(0, .ref x), (1, .int (nI lot)), (2, .int (nI mo1))] := hl
  obtain ⟨a7, a8, a9, a10, a11, ⟨v_7, v_8, v_9, v_10, v_11, v_12⟩, ⟨g_a7, g_a8, g_a9, g_a10, g_a11⟩, bnf, bfl, bfk, bfd, bfw, bfv0⟩ := hFc
  have LOOP : ∀ (k n : Nat), n + k = nf → ∀ ls : Array Slot, lv_has ls 5 [(0, .ref x), (1, .int (nI lot)), (2, .int (nI mo1)), (3, .int (if hLt fl fk fd lot mo1 n = true then 1 else 0)), (4, .int (nI n))] → W p l e { frames := 0, cells := 0, slots := 0, locals := 0 } s m ([.ref x, .int (nI lot), .int (nI mo1)] : List Value).toArray below meth c s.heap [] 0 0 (MQ below (cQi G h sz (fun r h' => r = (if hLt fl fk fd lot mo1 nf = true then 1 else 0) ∧ h' = h)) ([.ref x, .int (nI lot), .int (nI mo1)] : List Value).toArray s 0 0 (fA h sz)) (F0 m 5 ls []) := by
    intro k
    induction k with
    | zero =>
      intro n hn ls hl
      have hn2 : n = nf := by omega
      subst hn2
      rcases eb : hLt fl fk fd lot mo1 n with _ | _
      · rw [eb] at hl; have hl : lv_has ls 5 [(0, .ref x), (1, .int (nI lot)), (2, .int (nI mo1)), (3, .int 0), (4, .int (nI n))] := hl
        refine lv_iload hx hb d_MO_hasLitres_5 (lv_at hl 4 rfl) ?_
        refine lv_aload_n hx hb d_MO_hasLitres_7 rfl (lv_at hl 0 rfl) ?_
        refine f_get (C := "DutyRulesModel") (T := T_MO) (N := 40) hx hb (fun w q => hT w (s_MO w q)) hown hK hI g_x rfl 12 (by decide) (hT _ w_821) (fun _ q => q) (mo_get (by decide) v_12) d_MO_hasLitres_8 ?_
        refine lv_icmp_ge (tgt := 67) hx hb d_MO_hasLitres_11 (by decide) (fun c_1 => ?_) (fun c_1 => absurd (l_rfI _) c_1)
        refine lv_iload_n hx hb d_MO_hasLitres_67 rfl (lv_at hl 3 rfl) ?_
        exact f_zret C hr rfl hI ⟨by first | rfl | (rw [eb]; rfl), rfl⟩ hX (Nat.le_refl _) (Nat.le_refl _) d_MO_hasLitres_68
      · rw [eb] at hl; have hl : lv_has ls 5 [(0, .ref x), (1, .int (nI lot)), (2, .int (nI mo1)), (3, .int 1), (4, .int (nI n))] := hl
        refine lv_iload hx hb d_MO_hasLitres_5 (lv_at hl 4 rfl) ?_
        refine lv_aload_n hx hb d_MO_hasLitres_7 rfl (lv_at hl 0 rfl) ?_
        refine f_get (C := "DutyRulesModel") (T := T_MO) (N := 40) hx hb (fun w q => hT w (s_MO w q)) hown hK hI g_x rfl 12 (by decide) (hT _ w_821) (fun _ q => q) (mo_get (by decide) v_12) d_MO_hasLitres_8 ?_
        refine lv_icmp_ge (tgt := 67) hx hb d_MO_hasLitres_11 (by decide) (fun c_2 => ?_) (fun c_2 => absurd (l_rfI _) c_2)
        refine lv_iload_n hx hb d_MO_hasLitres_67 rfl (lv_at hl 3 rfl) ?_
        exact f_zret C hr rfl hI ⟨by first | rfl | (rw [eb]; rfl), rfl⟩ hX (Nat.le_refl _) (Nat.le_refl _) d_MO_hasLitres_68
    | succ k ih =>
      intro n hn ls hl
      have hn2 : n < nf := by omega
      have ih : ∀ n : Nat, n + k = nf → ∀ ls : Array Slot, lv_has ls 5 [(0, .ref x), (1, .int (nI lot)), (2, .int (nI mo1)), (3, .int (if hLt fl fk fd lot mo1 n = true then 1 else 0)), (4, .int (nI n))] → W p l e { frames := 0, cells := 0, slots := 0, locals := 0 } s m ([.ref x, .int (nI lot), .int (nI mo1)] : List Value).toArray below meth c s.heap [] 0 0 (MQ below (cQi G h sz (fun r h' => r = (if hLt fl fk fd lot mo1 nf = true then 1 else 0) ∧ h' = h)) ([.ref x, .int (nI lot), .int (nI mo1)] : List Value).toArray s 0 0 (fA h sz)) (F0 m 5 ls []) := ih
      have hfd := bfd n
      rcases eb : hLt fl fk fd lot mo1 n with _ | _
      · rw [eb] at hl; have hl : lv_has ls 5 [(0, .ref x), (1, .int (nI lot)), (2, .int (nI mo1)), (3, .int 0), (4, .int (nI n))] := hl
        refine lv_iload hx hb d_MO_hasLitres_5 (lv_at hl 4 rfl) ?_
        refine lv_aload_n hx hb d_MO_hasLitres_7 rfl (lv_at hl 0 rfl) ?_
        refine f_get (C := "DutyRulesModel") (T := T_MO) (N := 40) hx hb (fun w q => hT w (s_MO w q)) hown hK hI g_x rfl 12 (by decide) (hT _ w_821) (fun _ q => q) (mo_get (by decide) v_12) d_MO_hasLitres_8 ?_
        refine lv_icmp_ge (tgt := 67) hx hb d_MO_hasLitres_11 (by decide) (fun c_3 => absurd c_3 (fun q => absurd ((n_le (by omega) (by omega)).mp q) (by omega))) (fun c_3 => ?_)
        refine lv_iload_n hx hb d_MO_hasLitres_14 rfl (lv_at hl 3 rfl) ?_
        refine lv_aload_n hx hb d_MO_hasLitres_15 rfl (lv_at hl 0 rfl) ?_
        refine f_get (C := "DutyRulesModel") (T := T_MO) (N := 40) hx hb (fun w q => hT w (s_MO w q)) hown hK hI g_x rfl 7 (by decide) (hT _ w_816) (fun _ q => q) (mo_get (by decide) v_7) d_MO_hasLitres_16 ?_
        refine lv_iload hx hb d_MO_hasLitres_19 (lv_at hl 4 rfl) ?_
        refine f_ialdn (k := n) (v := (nI (fl n))) hx hb hI g_a7 (fT.ofK hK (t0 := 0) rfl) (by omega) (by omega) rfl d_MO_hasLitres_21 ?_
        refine lv_iload_n hx hb d_MO_hasLitres_22 rfl (lv_at hl 1 rfl) ?_
        refine lv_icmp_ne (tgt := 58) hx hb d_MO_hasLitres_23 (by decide) (fun c_4 => ?_) (fun c_4 => ?_)
        · have c_4 : ¬ (fl n) = lot := fun q => c_4 ((n_eq (a := (fl n)) (b := lot) (by have := bfl n; omega) (by omega)).mpr q)
          refine lv_iconst (v := 0) hx hb d_MO_hasLitres_58 (by decide) ?_
          refine lv_ior hx hb d_MO_hasLitres_59 ?_
          refine f_asi (show (0 : Int32) ||| 0 = 0 by decide) ?_
          refine lv_istore_n (lv' := [(3, .int 0), (0, .ref x), (1, .int (nI lot)), (2, .int (nI mo1)), (4, .int (nI n))]) hx hb d_MO_hasLitres_60 rfl hl (by decide) rfl (fun ls hl => ?_)
          refine lv_iinc (v := nI (n + 1)) (lv' := [(4, .int (nI (n + 1))), (3, .int 0), (0, .ref x), (1, .int (nI lot)), (2, .int (nI mo1))]) hx hb d_MO_hasLitres_61 hl (k := 4) rfl (f_inc1 _) (by decide) rfl (fun ls hl => ?_)
          refine lv_goto (tgt := 5) hx hb d_MO_hasLitres_64 (by decide) ?_
          refine ih (n + 1) (by omega) ls ?_
          have e9 : hLt fl fk fd lot mo1 (n + 1) = false := by show (hLt fl fk fd lot mo1 n || _) = _; rw [eb]; simp only [Bool.false_or, decide_eq_false_iff_not]; omega
          rw [e9]
          exact lv_sub hl [2, 3, 4, 1, 0] rfl
        · have c_4 : (fl n) = lot := (n_eq (a := (fl n)) (b := lot) (by have := bfl n; omega) (by omega)).mp c_4
          refine lv_aload_n hx hb d_MO_hasLitres_26 rfl (lv_at hl 0 rfl) ?_
          refine f_get (C := "DutyRulesModel") (T := T_MO) (N := 40) hx hb (fun w q => hT w (s_MO w q)) hown hK hI g_x rfl 8 (by decide) (hT _ w_817) (fun _ q => q) (mo_get (by decide) v_8) d_MO_hasLitres_27 ?_
          refine lv_iload hx hb d_MO_hasLitres_30 (lv_at hl 4 rfl) ?_
          refine f_ialdn (k := n) (v := (nI (fk n))) hx hb hI g_a8 (fT.ofK hK (t0 := 0) rfl) (by omega) (by omega) rfl d_MO_hasLitres_32 ?_
          refine lv_iconst (v := 2) hx hb d_MO_hasLitres_33 (by decide) ?_
          refine lv_icmp_ne (tgt := 58) hx hb d_MO_hasLitres_34 (by decide) (fun c_5 => ?_) (fun c_5 => ?_)
          · have c_5 : ¬ (fk n) = 2 := fun q => c_5 ((n_eq (a := (fk n)) (b := 2) (by have := bfk n; omega) (by omega)).mpr q)
            refine lv_iconst (v := 0) hx hb d_MO_hasLitres_58 (by decide) ?_
            refine lv_ior hx hb d_MO_hasLitres_59 ?_
            refine f_asi (show (0 : Int32) ||| 0 = 0 by decide) ?_
            refine lv_istore_n (lv' := [(3, .int 0), (0, .ref x), (1, .int (nI lot)), (2, .int (nI mo1)), (4, .int (nI n))]) hx hb d_MO_hasLitres_60 rfl hl (by decide) rfl (fun ls hl => ?_)
            refine lv_iinc (v := nI (n + 1)) (lv' := [(4, .int (nI (n + 1))), (3, .int 0), (0, .ref x), (1, .int (nI lot)), (2, .int (nI mo1))]) hx hb d_MO_hasLitres_61 hl (k := 4) rfl (f_inc1 _) (by decide) rfl (fun ls hl => ?_)
            refine lv_goto (tgt := 5) hx hb d_MO_hasLitres_64 (by decide) ?_
            refine ih (n + 1) (by omega) ls ?_
            have e9 : hLt fl fk fd lot mo1 (n + 1) = false := by show (hLt fl fk fd lot mo1 n || _) = _; rw [eb]; simp only [Bool.false_or, decide_eq_false_iff_not]; omega
            rw [e9]
            exact lv_sub hl [2, 3, 4, 1, 0] rfl
          · have c_5 : (fk n) = 2 := (n_eq (a := (fk n)) (b := 2) (by have := bfk n; omega) (by omega)).mp c_5
            refine lv_aload_n hx hb d_MO_hasLitres_37 rfl (lv_at hl 0 rfl) ?_
            refine f_get (C := "DutyRulesModel") (T := T_MO) (N := 40) hx hb (fun w q => hT w (s_MO w q)) hown hK hI g_x rfl 9 (by decide) (hT _ w_818) (fun _ q => q) (mo_get (by decide) v_9) d_MO_hasLitres_38 ?_
            refine lv_iload hx hb d_MO_hasLitres_41 (lv_at hl 4 rfl) ?_
            refine f_laldn (k := n) (v := (lN (fd n))) hx hb hI g_a9 (fT.ofK hK (t0 := 1) rfl) (by omega) (by omega) rfl d_MO_hasLitres_43 ?_
            refine lv_ldc2 (v := 30) hx hb hown (hT _ w_1073) d_MO_hasLitres_44 ?_
            refine lv_ldiv hx hb d_MO_hasLitres_47 (l_ne0 (a := 30) (by omega) (by omega)) ?_
            refine f_asl (pk_lDiv (a := (fd n)) (b := 30) (by have := bfd n; omega) (by omega) (by omega)) ?_
            refine lv_iload_n hx hb d_MO_hasLitres_48 rfl (lv_at hl 2 rfl) ?_
            refine lv_i2l (v := lN mo1) hx hb d_MO_hasLitres_49 (n_i2l (by omega)) ?_
            refine f_lc_ne (tgt := 58) hx hb d_MO_hasLitres_50 d_MO_hasLitres_51 (by decide) (fun c_6 => ?_) (fun c_6 => ?_)
            · have c_6 : ¬ ((fd n) / 30) = mo1 := fun q => c_6 ((pk_lEQ (a := ((fd n) / 30)) (b := mo1) (by have := bfd n; omega) (by omega)).mpr q)
              refine lv_iconst (v := 0) hx hb d_MO_hasLitres_58 (by decide) ?_
              refine lv_ior hx hb d_MO_hasLitres_59 ?_
              refine f_asi (show (0 : Int32) ||| 0 = 0 by decide) ?_
              refine lv_istore_n (lv' := [(3, .int 0), (0, .ref x), (1, .int (nI lot)), (2, .int (nI mo1)), (4, .int (nI n))]) hx hb d_MO_hasLitres_60 rfl hl (by decide) rfl (fun ls hl => ?_)
              refine lv_iinc (v := nI (n + 1)) (lv' := [(4, .int (nI (n + 1))), (3, .int 0), (0, .ref x), (1, .int (nI lot)), (2, .int (nI mo1))]) hx hb d_MO_hasLitres_61 hl (k := 4) rfl (f_inc1 _) (by decide) rfl (fun ls hl => ?_)
              refine lv_goto (tgt := 5) hx hb d_MO_hasLitres_64 (by decide) ?_
              refine ih (n + 1) (by omega) ls ?_
              have e9 : hLt fl fk fd lot mo1 (n + 1) = false := by show (hLt fl fk fd lot mo1 n || _) = _; rw [eb]; simp only [Bool.false_or, decide_eq_false_iff_not]; omega
              rw [e9]
              exact lv_sub hl [2, 3, 4, 1, 0] rfl
            · have c_6 : ((fd n) / 30) = mo1 := (pk_lEQ (a := ((fd n) / 30)) (b := mo1) (by have := bfd n; omega) (by omega)).mp c_6
              refine lv_iconst (v := 1) hx hb d_MO_hasLitres_54 (by decide) ?_
              refine lv_goto (tgt := 59) hx hb d_MO_hasLitres_55 (by decide) ?_
              refine lv_ior hx hb d_MO_hasLitres_59 ?_
              refine f_asi (show (0 : Int32) ||| 1 = 1 by decide) ?_
              refine lv_istore_n (lv' := [(3, .int 1), (0, .ref x), (1, .int (nI lot)), (2, .int (nI mo1)), (4, .int (nI n))]) hx hb d_MO_hasLitres_60 rfl hl (by decide) rfl (fun ls hl => ?_)
              refine lv_iinc (v := nI (n + 1)) (lv' := [(4, .int (nI (n + 1))), (3, .int 1), (0, .ref x), (1, .int (nI lot)), (2, .int (nI mo1))]) hx hb d_MO_hasLitres_61 hl (k := 4) rfl (f_inc1 _) (by decide) rfl (fun ls hl => ?_)
              refine lv_goto (tgt := 5) hx hb d_MO_hasLitres_64 (by decide) ?_
              refine ih (n + 1) (by omega) ls ?_
              have e9 : hLt fl fk fd lot mo1 (n + 1) = true := by show (hLt fl fk fd lot mo1 n || _) = _; rw [eb]; simp only [Bool.false_or, decide_eq_true_eq]; omega
              rw [e9]
              exact lv_sub hl [2, 3, 4, 1, 0] rfl
      · rw [eb] at hl; have hl : lv_has ls 5 [(0, .ref x), (1, .int (nI lot)), (2, .int (nI mo1)), (3, .int 1), (4, .int (nI n))] := hl
        refine lv_iload hx hb d_MO_hasLitres_5 (lv_at hl 4 rfl) ?_
        refine lv_aload_n hx hb d_MO_hasLitres_7 rfl (lv_at hl 0 rfl) ?_
        refine f_get (C := "DutyRulesModel") (T := T_MO) (N := 40) hx hb (fun w q => hT w (s_MO w q)) hown hK hI g_x rfl 12 (by decide) (hT _ w_821) (fun _ q => q) (mo_get (by decide) v_12) d_MO_hasLitres_8 ?_
        refine lv_icmp_ge (tgt := 67) hx hb d_MO_hasLitres_11 (by decide) (fun c_7 => absurd c_7 (fun q => absurd ((n_le (by omega) (by omega)).mp q) (by omega))) (fun c_7 => ?_)
        refine lv_iload_n hx hb d_MO_hasLitres_14 rfl (lv_at hl 3 rfl) ?_
        refine lv_aload_n hx hb d_MO_hasLitres_15 rfl (lv_at hl 0 rfl) ?_
        refine f_get (C := "DutyRulesModel") (T := T_MO) (N := 40) hx hb (fun w q => hT w (s_MO w q)) hown hK hI g_x rfl 7 (by decide) (hT _ w_816) (fun _ q => q) (mo_get (by decide) v_7) d_MO_hasLitres_16 ?_
        refine lv_iload hx hb d_MO_hasLitres_19 (lv_at hl 4 rfl) ?_
        refine f_ialdn (k := n) (v := (nI (fl n))) hx hb hI g_a7 (fT.ofK hK (t0 := 0) rfl) (by omega) (by omega) rfl d_MO_hasLitres_21 ?_
        refine lv_iload_n hx hb d_MO_hasLitres_22 rfl (lv_at hl 1 rfl) ?_
        refine lv_icmp_ne (tgt := 58) hx hb d_MO_hasLitres_23 (by decide) (fun c_8 => ?_) (fun c_8 => ?_)
        · have c_8 : ¬ (fl n) = lot := fun q => c_8 ((n_eq (a := (fl n)) (b := lot) (by have := bfl n; omega) (by omega)).mpr q)
          refine lv_iconst (v := 0) hx hb d_MO_hasLitres_58 (by decide) ?_
          refine lv_ior hx hb d_MO_hasLitres_59 ?_
          refine f_asi (show (1 : Int32) ||| 0 = 1 by decide) ?_
          refine lv_istore_n (lv' := [(3, .int 1), (0, .ref x), (1, .int (nI lot)), (2, .int (nI mo1)), (4, .int (nI n))]) hx hb d_MO_hasLitres_60 rfl hl (by decide) rfl (fun ls hl => ?_)
          refine lv_iinc (v := nI (n + 1)) (lv' := [(4, .int (nI (n + 1))), (3, .int 1), (0, .ref x), (1, .int (nI lot)), (2, .int (nI mo1))]) hx hb d_MO_hasLitres_61 hl (k := 4) rfl (f_inc1 _) (by decide) rfl (fun ls hl => ?_)
          refine lv_goto (tgt := 5) hx hb d_MO_hasLitres_64 (by decide) ?_
          refine ih (n + 1) (by omega) ls ?_
          have e9 : hLt fl fk fd lot mo1 (n + 1) = true := by show (hLt fl fk fd lot mo1 n || _) = _; rw [eb]; simp
          rw [e9]
          exact lv_sub hl [2, 3, 4, 1, 0] rfl
        · have c_8 : (fl n) = lot := (n_eq (a := (fl n)) (b := lot) (by have := bfl n; omega) (by omega)).mp c_8
          refine lv_aload_n hx hb d_MO_hasLitres_26 rfl (lv_at hl 0 rfl) ?_
          refine f_get (C := "DutyRulesModel") (T := T_MO) (N := 40) hx hb (fun w q => hT w (s_MO w q)) hown hK hI g_x rfl 8 (by decide) (hT _ w_817) (fun _ q => q) (mo_get (by decide) v_8) d_MO_hasLitres_27 ?_
          refine lv_iload hx hb d_MO_hasLitres_30 (lv_at hl 4 rfl) ?_
          refine f_ialdn (k := n) (v := (nI (fk n))) hx hb hI g_a8 (fT.ofK hK (t0 := 0) rfl) (by omega) (by omega) rfl d_MO_hasLitres_32 ?_
          refine lv_iconst (v := 2) hx hb d_MO_hasLitres_33 (by decide) ?_
          refine lv_icmp_ne (tgt := 58) hx hb d_MO_hasLitres_34 (by decide) (fun c_9 => ?_) (fun c_9 => ?_)
          · have c_9 : ¬ (fk n) = 2 := fun q => c_9 ((n_eq (a := (fk n)) (b := 2) (by have := bfk n; omega) (by omega)).mpr q)
            refine lv_iconst (v := 0) hx hb d_MO_hasLitres_58 (by decide) ?_
            refine lv_ior hx hb d_MO_hasLitres_59 ?_
            refine f_asi (show (1 : Int32) ||| 0 = 1 by decide) ?_
            refine lv_istore_n (lv' := [(3, .int 1), (0, .ref x), (1, .int (nI lot)), (2, .int (nI mo1)), (4, .int (nI n))]) hx hb d_MO_hasLitres_60 rfl hl (by decide) rfl (fun ls hl => ?_)
            refine lv_iinc (v := nI (n + 1)) (lv' := [(4, .int (nI (n + 1))), (3, .int 1), (0, .ref x), (1, .int (nI lot)), (2, .int (nI mo1))]) hx hb d_MO_hasLitres_61 hl (k := 4) rfl (f_inc1 _) (by decide) rfl (fun ls hl => ?_)
            refine lv_goto (tgt := 5) hx hb d_MO_hasLitres_64 (by decide) ?_
            refine ih (n + 1) (by omega) ls ?_
            have e9 : hLt fl fk fd lot mo1 (n + 1) = true := by show (hLt fl fk fd lot mo1 n || _) = _; rw [eb]; simp
            rw [e9]
            exact lv_sub hl [2, 3, 4, 1, 0] rfl
          · have c_9 : (fk n) = 2 := (n_eq (a := (fk n)) (b := 2) (by have := bfk n; omega) (by omega)).mp c_9
            refine lv_aload_n hx hb d_MO_hasLitres_37 rfl (lv_at hl 0 rfl) ?_
            refine f_get (C := "DutyRulesModel") (T := T_MO) (N := 40) hx hb (fun w q => hT w (s_MO w q)) hown hK hI g_x rfl 9 (by decide) (hT _ w_818) (fun _ q => q) (mo_get (by decide) v_9) d_MO_hasLitres_38 ?_
            refine lv_iload hx hb d_MO_hasLitres_41 (lv_at hl 4 rfl) ?_
            refine f_laldn (k := n) (v := (lN (fd n))) hx hb hI g_a9 (fT.ofK hK (t0 := 1) rfl) (by omega) (by omega) rfl d_MO_hasLitres_43 ?_
            refine lv_ldc2 (v := 30) hx hb hown (hT _ w_1073) d_MO_hasLitres_44 ?_
            refine lv_ldiv hx hb d_MO_hasLitres_47 (l_ne0 (a := 30) (by omega) (by omega)) ?_
            refine f_asl (pk_lDiv (a := (fd n)) (b := 30) (by have := bfd n; omega) (by omega) (by omega)) ?_
            refine lv_iload_n hx hb d_MO_hasLitres_48 rfl (lv_at hl 2 rfl) ?_
            refine lv_i2l (v := lN mo1) hx hb d_MO_hasLitres_49 (n_i2l (by omega)) ?_
            refine f_lc_ne (tgt := 58) hx hb d_MO_hasLitres_50 d_MO_hasLitres_51 (by decide) (fun c_10 => ?_) (fun c_10 => ?_)
            · have c_10 : ¬ ((fd n) / 30) = mo1 := fun q => c_10 ((pk_lEQ (a := ((fd n) / 30)) (b := mo1) (by have := bfd n; omega) (by omega)).mpr q)
              refine lv_iconst (v := 0) hx hb d_MO_hasLitres_58 (by decide) ?_
              refine lv_ior hx hb d_MO_hasLitres_59 ?_
              refine f_asi (show (1 : Int32) ||| 0 = 1 by decide) ?_
              refine lv_istore_n (lv' := [(3, .int 1), (0, .ref x), (1, .int (nI lot)), (2, .int (nI mo1)), (4, .int (nI n))]) hx hb d_MO_hasLitres_60 rfl hl (by decide) rfl (fun ls hl => ?_)
              refine lv_iinc (v := nI (n + 1)) (lv' := [(4, .int (nI (n + 1))), (3, .int 1), (0, .ref x), (1, .int (nI lot)), (2, .int (nI mo1))]) hx hb d_MO_hasLitres_61 hl (k := 4) rfl (f_inc1 _) (by decide) rfl (fun ls hl => ?_)
              refine lv_goto (tgt := 5) hx hb d_MO_hasLitres_64 (by decide) ?_
              refine ih (n + 1) (by omega) ls ?_
              have e9 : hLt fl fk fd lot mo1 (n + 1) = true := by show (hLt fl fk fd lot mo1 n || _) = _; rw [eb]; simp
              rw [e9]
              exact lv_sub hl [2, 3, 4, 1, 0] rfl
            · have c_10 : ((fd n) / 30) = mo1 := (pk_lEQ (a := ((fd n) / 30)) (b := mo1) (by have := bfd n; omega) (by omega)).mp c_10
              refine lv_iconst (v := 1) hx hb d_MO_hasLitres_54 (by decide) ?_
              refine lv_goto (tgt := 59) hx hb d_MO_hasLitres_55 (by decide) ?_
              refine lv_ior hx hb d_MO_hasLitres_59 ?_
              refine f_asi (show (1 : Int32) ||| 1 = 1 by decide) ?_
              refine lv_istore_n (lv' := [(3, .int 1), (0, .ref x), (1, .int (nI lot)), (2, .int (nI mo1)), (4, .int (nI n))]) hx hb d_MO_hasLitres_60 rfl hl (by decide) rfl (fun ls hl => ?_)
              refine lv_iinc (v := nI (n + 1)) (lv' := [(4, .int (nI (n + 1))), (3, .int 1), (0, .ref x), (1, .int (nI lot)), (2, .int (nI mo1))]) hx hb d_MO_hasLitres_61 hl (k := 4) rfl (f_inc1 _) (by decide) rfl (fun ls hl => ?_)
              refine lv_goto (tgt := 5) hx hb d_MO_hasLitres_64 (by decide) ?_
              refine ih (n + 1) (by omega) ls ?_
              have e9 : hLt fl fk fd lot mo1 (n + 1) = true := by show (hLt fl fk fd lot mo1 n || _) = _; rw [eb]; simp
              rw [e9]
              exact lv_sub hl [2, 3, 4, 1, 0] rfl
  refine lv_iconst (v := 0) hx hb d_MO_hasLitres_0 (by decide) ?_
  refine lv_istore_n (lv' := [(3, .int 0), (0, .ref x), (1, .int (nI lot)), (2, .int (nI mo1))]) hx hb d_MO_hasLitres_1 rfl hl (by decide) rfl (fun ls hl => ?_)
  refine lv_iconst (v := 0) hx hb d_MO_hasLitres_2 (by decide) ?_
  refine lv_istore (lv' := [(4, .int 0), (3, .int 0), (0, .ref x), (1, .int (nI lot)), (2, .int (nI mo1))]) hx hb d_MO_hasLitres_3 hl (by decide) rfl (fun ls hl => ?_)
  refine LOOP nf 0 (by omega) ls ?_
  exact lv_sub hl [2, 3, 4, 1, 0] rfl
