theorem gm_MO_put : gM y_MO_put b_MO_put 2 none 1 := ⟨w_986, w_10, ⟨by decide, by decide⟩, by decide +kernel⟩
set_option maxHeartbeats 4000000 in
set_option maxRecDepth 100000 in
/-- MO_put  -/
theorem c_MO_put (l : Launch) (G : gG) (h : fH) (sz : Nat) (x ch : Nat) (wi : Int32) (T : List Nat) (mf : Nat → Value) (g_x : h x = some (40, 0, .inr (8, mo mf))) (hW : mW mf wi T) (bT : T.length < 1000000) : cM l y_MO_put b_MO_put 2 none { frames := 0, cells := 0, slots := 0, locals := 0 } G [.ref x, .int (nI ch)] h sz (cQv G h sz (fun h' => ∃ mf', h' x = some (40, 0, .inr (8, mo mf')) ∧ (∀ j, j < 37 → mf' j = mf j) ∧ mW mf' wi (T ++ [ch]) ∧ fF (inR [40]) h h')) := by
  refine f_start (by decide) (Nat.le_of_ble_eq_true rfl) ?_
  intro p e s m below meth c ls C hr hsz hI hl
  obtain ⟨hx, hb, hml, hown, hnm, hlk, hT, hG, hZ⟩ := id C
  have hK := hG.1
  have hX : fX h sz h := fX.rf
  have hl : lv_has ls 2 [(0, .ref x), (1, .int (nI ch))] := hl
  obtain ⟨v_37, v_38, v_39⟩ := id hW
  have hF : fF (inR [40]) h h := fF.rf
  have hm1 : ∀ j, j < 37 → mf j = mf j := fun _ _ => rfl
  have hz0 := hI.2.2.2.1
  refine lv_aload_n hx hb d_MO_put_0 rfl (lv_at hl 0 rfl) ?_
  refine lv_aload_n hx hb d_MO_put_1 rfl (lv_at hl 0 rfl) ?_
  refine f_get (C := "DutyRulesModel") (T := T_MO) (N := 40) hx hb (fun w q => hT w (s_MO w q)) hown hK hI g_x rfl 39 (by decide) (hT _ w_848) (fun _ q => q) (mo_get (by decide) v_39) d_MO_put_2 ?_
  refine lv_aload_n hx hb d_MO_put_5 rfl (lv_at hl 0 rfl) ?_
  refine f_get (C := "DutyRulesModel") (T := T_MO) (N := 40) hx hb (fun w q => hT w (s_MO w q)) hown hK hI g_x rfl 37 (by decide) (hT _ w_846) (fun _ q => q) (mo_get (by decide) v_37) d_MO_put_6 ?_
  refine lv_icmp_ne (tgt := 16) hx hb d_MO_put_9 (by decide) (fun c_1 => ?_) (fun c_1 => ?_)
  · skip
    refine lv_aload_n hx hb d_MO_put_16 rfl (lv_at hl 0 rfl) ?_
    refine f_get (C := "DutyRulesModel") (T := T_MO) (N := 40) hx hb (fun w q => hT w (s_MO w q)) hown hK hI g_x rfl 38 (by decide) (hT _ w_847) (fun _ q => q) (mo_get (by decide) v_38) d_MO_put_17 ?_
    refine f_put (C := "DutyRulesModel") (T := T_MO) (N := 40) (fs' := mo (va_up mf 38 (.int (gtL wi T)))) (v := .int (gtL wi T)) hx hb (fun w q => hT w (s_MO w q)) t_MO k_MO n_MO hown hK hI g_x (by decide) rfl 38 (by decide) (hT _ w_847) (fun _ q => q) rfl rfl rfl (by rw [mo_len]; decide) (mo_set _) d_MO_put_20 (fun H locs hI => ?_)
    generalize emf_2 : va_up mf 38 (.int (gtL wi T)) = mf_2 at hI
    have v_37 : mf_2 37 = .int wi := (congrFun emf_2 37).symm.trans ((va_up_ne _ _ (by decide)).trans v_37)
    have v_39 : mf_2 39 = .int (nI T.length) := (congrFun emf_2 39).symm.trans ((va_up_ne _ _ (by decide)).trans v_39)
    have v_38 : mf_2 38 = .int (gtL wi T) := (congrFun emf_2 38).symm.trans (va_up_self _ _ _)
    generalize eh_3 : fU h x (40, 0, .inr (8, mo mf_2)) = h_3 at hI
    have hX := hX.set (e := .inr (8, mo mf_2)) g_x (by decide); rw [eh_3] at hX
    have hF := hF.set (e := .inr (8, mo mf_2)) g_x (by decide); rw [eh_3] at hF
    have g_x : h_3 x = some (40, 0, .inr (8, mo mf_2)) := (congrFun eh_3 x).symm.trans (fU_self _ _ _)
    have hm1 : ∀ j, j < 37 → mf_2 j = mf j := fun j hj => (congrFun emf_2 j).symm.trans ((va_up_ne _ _ (by omega)).trans (hm1 j hj))
    refine lv_aload_n hx hb d_MO_put_23 rfl (lv_at hl 0 rfl) ?_
    refine lv_dup hx hb d_MO_put_24 rfl ?_
    refine f_get (C := "DutyRulesModel") (T := T_MO) (N := 40) hx hb (fun w q => hT w (s_MO w q)) hown hK hI g_x rfl 39 (by decide) (hT _ w_848) (fun _ q => q) (mo_get (by decide) v_39) d_MO_put_25 ?_
    refine lv_iconst (v := 1) hx hb d_MO_put_28 (by decide) ?_
    refine lv_iadd hx hb d_MO_put_29 ?_
    refine f_asi (nI_add T.length 1) ?_
    refine f_put (C := "DutyRulesModel") (T := T_MO) (N := 40) (fs' := mo (va_up mf_2 39 (.int (nI (T.length + 1))))) (v := .int (nI (T.length + 1))) hx hb (fun w q => hT w (s_MO w q)) t_MO k_MO n_MO hown hK hI g_x (by decide) rfl 39 (by decide) (hT _ w_848) (fun _ q => q) rfl rfl rfl (by rw [mo_len]; decide) (mo_set _) d_MO_put_30 (fun H locs hI => ?_)
    generalize emf_4 : va_up mf_2 39 (.int (nI (T.length + 1))) = mf_4 at hI
    have v_37 : mf_4 37 = .int wi := (congrFun emf_4 37).symm.trans ((va_up_ne _ _ (by decide)).trans v_37)
    have v_38 : mf_4 38 = .int (gtL wi T) := (congrFun emf_4 38).symm.trans ((va_up_ne _ _ (by decide)).trans v_38)
    have v_39 : mf_4 39 = .int (nI (T.length + 1)) := (congrFun emf_4 39).symm.trans (va_up_self _ _ _)
    generalize eh_5 : fU h_3 x (40, 0, .inr (8, mo mf_4)) = h_5 at hI
    have hX := hX.set (e := .inr (8, mo mf_4)) g_x (by decide); rw [eh_5] at hX
    have hF := hF.set (e := .inr (8, mo mf_4)) g_x (by decide); rw [eh_5] at hF
    have g_x : h_5 x = some (40, 0, .inr (8, mo mf_4)) := (congrFun eh_5 x).symm.trans (fU_self _ _ _)
    have hm1 : ∀ j, j < 37 → mf_4 j = mf j := fun j hj => (congrFun emf_4 j).symm.trans ((va_up_ne _ _ (by omega)).trans (hm1 j hj))
    exact f_vret C hr hI ⟨mf_4, g_x, hm1, ⟨v_37, by rw [gtL_add (by omega), if_neg c_1]; exact v_38, by rw [List.length_append]; exact v_39⟩, hF⟩ hX (Nat.le_refl _) (Nat.le_refl _) d_MO_put_33
  · skip
    refine lv_iload_n hx hb d_MO_put_12 rfl (lv_at hl 1 rfl) ?_
    refine lv_goto (tgt := 20) hx hb d_MO_put_13 (by decide) ?_
    refine f_put (C := "DutyRulesModel") (T := T_MO) (N := 40) (fs' := mo (va_up mf 38 (.int (nI ch)))) (v := .int (nI ch)) hx hb (fun w q => hT w (s_MO w q)) t_MO k_MO n_MO hown hK hI g_x (by decide) rfl 38 (by decide) (hT _ w_847) (fun _ q => q) rfl rfl rfl (by rw [mo_len]; decide) (mo_set _) d_MO_put_20 (fun H locs hI => ?_)
    generalize emf_6 : va_up mf 38 (.int (nI ch)) = mf_6 at hI
    have v_37 : mf_6 37 = .int wi := (congrFun emf_6 37).symm.trans ((va_up_ne _ _ (by decide)).trans v_37)
    have v_39 : mf_6 39 = .int (nI T.length) := (congrFun emf_6 39).symm.trans ((va_up_ne _ _ (by decide)).trans v_39)
    have v_38 : mf_6 38 = .int (nI ch) := (congrFun emf_6 38).symm.trans (va_up_self _ _ _)
    generalize eh_7 : fU h x (40, 0, .inr (8, mo mf_6)) = h_7 at hI
    have hX := hX.set (e := .inr (8, mo mf_6)) g_x (by decide); rw [eh_7] at hX
    have hF := hF.set (e := .inr (8, mo mf_6)) g_x (by decide); rw [eh_7] at hF
    have g_x : h_7 x = some (40, 0, .inr (8, mo mf_6)) := (congrFun eh_7 x).symm.trans (fU_self _ _ _)
    have hm1 : ∀ j, j < 37 → mf_6 j = mf j := fun j hj => (congrFun emf_6 j).symm.trans ((va_up_ne _ _ (by omega)).trans (hm1 j hj))
    refine lv_aload_n hx hb d_MO_put_23 rfl (lv_at hl 0 rfl) ?_
    refine lv_dup hx hb d_MO_put_24 rfl ?_
    refine f_get (C := "DutyRulesModel") (T := T_MO) (N := 40) hx hb (fun w q => hT w (s_MO w q)) hown hK hI g_x rfl 39 (by decide) (hT _ w_848) (fun _ q => q) (mo_get (by decide) v_39) d_MO_put_25 ?_
    refine lv_iconst (v := 1) hx hb d_MO_put_28 (by decide) ?_
    refine lv_iadd hx hb d_MO_put_29 ?_
    refine f_asi (nI_add T.length 1) ?_
    refine f_put (C := "DutyRulesModel") (T := T_MO) (N := 40) (fs' := mo (va_up mf_6 39 (.int (nI (T.length + 1))))) (v := .int (nI (T.length + 1))) hx hb (fun w q => hT w (s_MO w q)) t_MO k_MO n_MO hown hK hI g_x (by decide) rfl 39 (by decide) (hT _ w_848) (fun _ q => q) rfl rfl rfl (by rw [mo_len]; decide) (mo_set _) d_MO_put_30 (fun H locs hI => ?_)
    generalize emf_8 : va_up mf_6 39 (.int (nI (T.length + 1))) = mf_8 at hI
    have v_37 : mf_8 37 = .int wi := (congrFun emf_8 37).symm.trans ((va_up_ne _ _ (by decide)).trans v_37)
    have v_38 : mf_8 38 = .int (nI ch) := (congrFun emf_8 38).symm.trans ((va_up_ne _ _ (by decide)).trans v_38)
    have v_39 : mf_8 39 = .int (nI (T.length + 1)) := (congrFun emf_8 39).symm.trans (va_up_self _ _ _)
    generalize eh_9 : fU h_7 x (40, 0, .inr (8, mo mf_8)) = h_9 at hI
    have hX := hX.set (e := .inr (8, mo mf_8)) g_x (by decide); rw [eh_9] at hX
    have hF := hF.set (e := .inr (8, mo mf_8)) g_x (by decide); rw [eh_9] at hF
    have g_x : h_9 x = some (40, 0, .inr (8, mo mf_8)) := (congrFun eh_9 x).symm.trans (fU_self _ _ _)
    have hm1 : ∀ j, j < 37 → mf_8 j = mf j := fun j hj => (congrFun emf_8 j).symm.trans ((va_up_ne _ _ (by omega)).trans (hm1 j hj))
    exact f_vret C hr hI ⟨mf_8, g_x, hm1, ⟨v_37, by rw [gtL_add (by omega), if_pos c_1]; exact v_38, by rw [List.length_append]; exact v_39⟩, hF⟩ hX (Nat.le_refl _) (Nat.le_refl _) d_MO_put_33
theorem gm_MO_say : gM y_MO_say b_MO_say 3 none 1 := ⟨w_982, w_10, ⟨by decide, by decide⟩, by decide +kernel⟩
set_option maxHeartbeats 4000000 in
set_option maxRecDepth 100000 in
/-- MO_say  -/
theorem c_MO_say (l : Launch) (G : gG) (h : fH) (sz : Nat) (x wd : Nat) (wi : Int32) (T : List Nat) (mf : Nat → Value) (g_x : h x = some (40, 0, .inr (8, mo mf))) (hW : mW mf wi T) (bT : T.length < 900000) (hS : sT G h 0 0 7 (G.2.2.2 7) aL 63) (hw : wd < 13) : cM l y_MO_say b_MO_say 3 none { frames := 6, cells := 0, slots := 0, locals := 130 } G [.ref x, .int (nI wd)] h sz (cQv G h sz (fun h' => ∃ mf', h' x = some (40, 0, .inr (8, mo mf')) ∧ (∀ j, j < 37 → mf' j = mf j) ∧ mW mf' wi (T ++ wD wd) ∧ fF (inR [40]) h h')) := by
  refine f_start (by decide) (Nat.le_of_ble_eq_true rfl) ?_
  intro p e s m below meth c ls C hr hsz hI hl
  obtain ⟨hx, hb, hml, hown, hnm, hlk, hT, hG, hZ⟩ := id C
  have hK := hG.1
  have hX : fX h sz h := fX.rf
  have hl : lv_has ls 3 [(0, .ref x), (1, .int (nI wd))] := hl
  obtain ⟨v_37, v_38, v_39⟩ := id hW
  have hF : fF (inR [40]) h h := fF.rf
  have hm1 : ∀ j, j < 37 → mf j = mf j := fun _ _ => rfl
  have hz0 := hI.2.2.2.1
  have hq0 := aL_sp wd hw
  have J2 : ∀ (k n : Nat), n + k = wL wd → ∀ (h1 : fH) (mf1 : Nat → Value) (H : Heap) (locs : List Loc), h1 x = some (40, 0, .inr (8, mo mf1)) → mf1 37 = .int wi → mf1 38 = .int (gtL wi (T ++ wDk wd n)) → mf1 39 = .int (nI (T ++ wDk wd n).length) → (∀ j, j < 37 → mf1 j = mf j) → fF (inR [40]) h h1 → fX h sz h1 → fI G.1 g_cl (fA h sz) s.heap h1 H locs → ∀ ls : Array Slot, lv_has ls 3 [(0, .ref x), (1, .int (nI wd)), (2, .int (nI n))] → W p l e { frames := 6, cells := 0, slots := 0, locals := 130 } s m ([.ref x, .int (nI wd)] : List Value).toArray below meth c H locs 0 0 (MQ below (cQv G h sz (fun h' => ∃ mf', h' x = some (40, 0, .inr (8, mo mf')) ∧ (∀ j, j < 37 → mf' j = mf j) ∧ mW mf' wi (T ++ wD wd) ∧ fF (inR [40]) h h')) ([.ref x, .int (nI wd)] : List Value).toArray s 0 0 (fA h sz)) (F0 m 2 ls []) := by
    intro k
    induction k with
    | zero =>
      intro n hn h1 mf1 H locs g_x v_37 v_38 v_39 hm1 hF hX hI ls hl
      have hS1 := hS.keepX hX
      have hn2 : n = wL wd := by omega
      subst hn2
      refine lv_iload_n hx hb d_MO_say_2 rfl (lv_at hl 2 rfl) ?_
      refine lv_iload_n hx hb d_MO_say_3 rfl (lv_at hl 1 rfl) ?_
      refine f_calli hI (f_runS C hI (c_MO_wordSize l G h1 _ wd hS1 hw) gm_MO_wordSize w_954 w_953 rfl hl.1 rfl (Nat.le_of_ble_eq_true rfl) ⟨Nat.le_of_ble_eq_true rfl, Nat.le_of_ble_eq_true rfl⟩ d_MO_say_4 ⟨Nat.le_of_ble_eq_true rfl, Nat.le_of_ble_eq_true rfl⟩) (fun r_1 h8 H9 locs hp9 hX9 hz9 hI => ?_)
      obtain ⟨rfl, e9⟩ := hp9
      rw [e9] at hI
      clear hX9 e9
      refine lv_icmp_ge (tgt := 25) hx hb d_MO_say_7 (by decide) (fun c_2 => ?_) (fun c_2 => absurd (l_rfI _) c_2)
      exact f_vret C hr hI ⟨mf1, g_x, hm1, ⟨v_37, v_38, v_39⟩, hF⟩ hX (Nat.le_refl _) (Nat.le_refl _) d_MO_say_25
    | succ k ih =>
      intro n hn h1 mf1 H locs g_x v_37 v_38 v_39 hm1 hF hX hI ls hl
      have ih : ∀ n : Nat, n + k = wL wd → ∀ (h1 : fH) (mf1 : Nat → Value) (H : Heap) (locs : List Loc), h1 x = some (40, 0, .inr (8, mo mf1)) → mf1 37 = .int wi → mf1 38 = .int (gtL wi (T ++ wDk wd n)) → mf1 39 = .int (nI (T ++ wDk wd n).length) → (∀ j, j < 37 → mf1 j = mf j) → fF (inR [40]) h h1 → fX h sz h1 → fI G.1 g_cl (fA h sz) s.heap h1 H locs → ∀ ls : Array Slot, lv_has ls 3 [(0, .ref x), (1, .int (nI wd)), (2, .int (nI n))] → W p l e { frames := 6, cells := 0, slots := 0, locals := 130 } s m ([.ref x, .int (nI wd)] : List Value).toArray below meth c H locs 0 0 (MQ below (cQv G h sz (fun h' => ∃ mf', h' x = some (40, 0, .inr (8, mo mf')) ∧ (∀ j, j < 37 → mf' j = mf j) ∧ mW mf' wi (T ++ wD wd) ∧ fF (inR [40]) h h')) ([.ref x, .int (nI wd)] : List Value).toArray s 0 0 (fA h sz)) (F0 m 2 ls []) := ih
      have hS1 := hS.keepX hX
      have hTl : (T ++ wDk wd n).length = T.length + n := by rw [List.length_append, wDk_l]
      refine lv_iload_n hx hb d_MO_say_2 rfl (lv_at hl 2 rfl) ?_
      refine lv_iload_n hx hb d_MO_say_3 rfl (lv_at hl 1 rfl) ?_
      refine f_calli hI (f_runS C hI (c_MO_wordSize l G h1 _ wd hS1 hw) gm_MO_wordSize w_954 w_953 rfl hl.1 rfl (Nat.le_of_ble_eq_true rfl) ⟨Nat.le_of_ble_eq_true rfl, Nat.le_of_ble_eq_true rfl⟩ d_MO_say_4 ⟨Nat.le_of_ble_eq_true rfl, Nat.le_of_ble_eq_true rfl⟩) (fun r_3 h8 H9 locs hp9 hX9 hz9 hI => ?_)
      obtain ⟨rfl, e9⟩ := hp9
      rw [e9] at hI
      clear hX9 e9
      refine lv_icmp_ge (tgt := 25) hx hb d_MO_say_7 (by decide) (fun c_4 => absurd c_4 (fun q => absurd ((n_le (a := wL wd) (b := n) (by omega) (by omega)).mp q) (by omega))) (fun c_4 => ?_)
      refine lv_aload_n hx hb d_MO_say_10 rfl (lv_at hl 0 rfl) ?_
      refine lv_iload_n hx hb d_MO_say_11 rfl (lv_at hl 1 rfl) ?_
      refine lv_iload_n hx hb d_MO_say_12 rfl (lv_at hl 2 rfl) ?_
      refine f_calli hI (f_runS C hI (c_MO_wordByte l G h1 _ wd n hS1 hw (by omega)) gm_MO_wordByte w_957 w_956 rfl hl.1 rfl (Nat.le_of_ble_eq_true rfl) ⟨Nat.le_of_ble_eq_true rfl, Nat.le_of_ble_eq_true rfl⟩ d_MO_say_13 ⟨Nat.le_of_ble_eq_true rfl, Nat.le_of_ble_eq_true rfl⟩) (fun r_5 h8 H9 locs hp9 hX9 hz9 hI => ?_)
      obtain ⟨rfl, e9⟩ := hp9
      rw [e9] at hI
      clear hX9 e9
      refine f_asi (if_neg (show ¬ n = wL wd by omega)) ?_
      have hzA := hI.2.2.2.1
      refine f_callv hI (f_runV C hI (c_MO_put l G h1 _ x (aL (wS wd + n)) wi (T ++ wDk wd n) mf1 g_x ⟨v_37, v_38, v_39⟩ (by rw [hTl]; omega)) gm_MO_put w_985 p_MO_put w_983 g_x rfl rfl rfl hl.1 rfl (Nat.le_of_ble_eq_true rfl) ⟨Nat.le_of_ble_eq_true rfl, Nat.le_of_ble_eq_true rfl⟩ d_MO_say_16 ⟨Nat.le_of_ble_eq_true rfl, Nat.le_of_ble_eq_true rfl⟩) (fun h9 H9 locs hp9 hX9 hz9 hI => ?_)
      obtain ⟨mf_7, g_x, hm9, ⟨v_37, v_38, v_39⟩, hF9⟩ := hp9
      have hm1 : ∀ j, j < 37 → mf_7 j = mf j := fun j hj => (hm9 j hj).trans (hm1 j hj)
      have hF := hF.tr (hF9.mono (fun r _ q => (by simp at q ⊢; omega : r ∈ [40])))
      have hX := fX.tr (Nat.le_trans (Nat.le_of_eq hsz.symm) hzA) hX hX9
      refine lv_iinc (v := nI (n + 1)) (lv' := [(2, .int (nI (n + 1))), (0, .ref x), (1, .int (nI wd))]) hx hb d_MO_say_19 hl (k := 2) rfl (f_inc1 _) (by decide) rfl (fun ls hl => ?_)
      refine lv_goto (tgt := 2) hx hb d_MO_say_22 (by decide) ?_
      have eT : (T ++ wDk wd n) ++ [aL (wS wd + n)] = T ++ wDk wd (n + 1) := by rw [wDk_s, List.append_assoc]
      rw [eT] at v_38 v_39
      refine ih (n + 1) (by omega) _ mf_7 _ _ g_x v_37 v_38 v_39 hm1 hF hX hI ls ?_
      exact lv_sub hl [1, 2, 0] rfl
  have e0 : T = T ++ wDk wd 0 := by simp [wDk]
  rw [e0] at v_38 v_39
  refine lv_iconst (v := 0) hx hb d_MO_say_0 (by decide) ?_
  refine lv_istore_n (lv' := [(2, .int 0), (0, .ref x), (1, .int (nI wd))]) hx hb d_MO_say_1 rfl hl (by decide) rfl (fun ls hl => ?_)
  refine J2 (wL wd) 0 (by omega) _ mf _ _ g_x v_37 v_38 v_39 hm1 hF hX hI ls ?_
  exact lv_sub hl [1, 2, 0] rfl
theorem gm_MO_digits : gM y_MO_digits b_MO_digits 3 none 1 := ⟨w_990, w_10, ⟨by decide, by decide⟩, by decide +kernel⟩
set_option maxHeartbeats 4000000 in
set_option maxRecDepth 100000 in
/-- MO_digits  -/
theorem c_MO_digits (l : Launch) (G : gG) (h : fH) (sz : Nat) (x v : Nat) (wi : Int32) (T : List Nat) (mf : Nat → Value) (g_x : h x = some (40, 0, .inr (8, mo mf))) (hW : mW mf wi T) (bT : T.length < 900000) (bv : v < 1000000000) : cM l y_MO_digits b_MO_digits 3 none { frames := 1, cells := 0, slots := 0, locals := 21 } G [.ref x, .int (nI v)] h sz (cQv G h sz (fun h' => ∃ mf', h' x = some (40, 0, .inr (8, mo mf')) ∧ (∀ j, j < 37 → mf' j = mf j) ∧ mW mf' wi (T ++ dG v) ∧ fF (inR [40]) h h')) := by
  refine f_start (by decide) (Nat.le_of_ble_eq_true rfl) ?_
  intro p e s m below meth c ls C hr hsz hI hl
  obtain ⟨hx, hb, hml, hown, hnm, hlk, hT, hG, hZ⟩ := id C
  have hK := hG.1
  have hX : fX h sz h := fX.rf
  have hl : lv_has ls 3 [(0, .ref x), (1, .int (nI v))] := hl
  obtain ⟨v_37, v_38, v_39⟩ := id hW
  have hF : fF (inR [40]) h h := fF.rf
  have hm1 : ∀ j, j < 37 → mf j = mf j := fun _ _ => rfl
  have hz0 := hI.2.2.2.1
  obtain ⟨hd1, hd2, hd3, hd4⟩ := dg_pow bv
  have J18 : ∀ (t n : Nat), n + (t + 1) = sb_dg v → ∀ (h1 : fH) (mf1 : Nat → Value) (H : Heap) (locs : List Loc), h1 x = some (40, 0, .inr (8, mo mf1)) → mf1 37 = .int wi → mf1 38 = .int (gtL wi (T ++ dGk v n)) → mf1 39 = .int (nI (T ++ dGk v n).length) → (∀ j, j < 37 → mf1 j = mf j) → fF (inR [40]) h h1 → fX h sz h1 → fI G.1 g_cl (fA h sz) s.heap h1 H locs → ∀ ls : Array Slot, lv_has ls 3 [(0, .ref x), (1, .int (nI v)), (2, .int (nI (10 ^ t)))] → W p l e { frames := 1, cells := 0, slots := 0, locals := 21 } s m ([.ref x, .int (nI v)] : List Value).toArray below meth c H locs 0 0 (MQ below (cQv G h sz (fun h' => ∃ mf', h' x = some (40, 0, .inr (8, mo mf')) ∧ (∀ j, j < 37 → mf' j = mf j) ∧ mW mf' wi (T ++ dG v) ∧ fF (inR [40]) h h')) ([.ref x, .int (nI v)] : List Value).toArray s 0 0 (fA h sz)) (F0 m 18 ls []) := by
    intro t
    induction t with
    | zero =>
      intro n hn h1 mf1 H locs g_x v_37 v_38 v_39 hm1 hF hX hI ls hl
      have ht8 := p10_8 (t := 0) (by omega)
      have ht0 := p10_0 0
      have hTl : (T ++ dGk v n).length = T.length + n := by rw [List.length_append, dGk_l]
      have hch : 48 + v / 10 ^ 0 % 10 = sb_dec v n := by unfold sb_dec; rw [show sb_dg v - 1 - n = 0 by omega]
      have hvd := Nat.div_le_self v (10 ^ 0)
      refine lv_iload_n hx hb d_MO_digits_18 rfl (lv_at hl 2 rfl) ?_
      refine lv_if_le (tgt := 43) hx hb d_MO_digits_19 (by decide) (fun c_1 => absurd c_1 (fun q => absurd ((n_le (a := 10 ^ 0) (b := 0) (by omega) (by omega)).mp q) (by omega))) (fun c_1 => ?_)
      refine lv_aload_n hx hb d_MO_digits_22 rfl (lv_at hl 0 rfl) ?_
      refine lv_bipush (v := 48) hx hb d_MO_digits_23 (by decide) ?_
      refine lv_iload_n hx hb d_MO_digits_25 rfl (lv_at hl 1 rfl) ?_
      refine lv_iload_n hx hb d_MO_digits_26 rfl (lv_at hl 2 rfl) ?_
      refine lv_idiv hx hb d_MO_digits_27 (n_ne0 (a := (10 ^ 0)) (by omega) (by omega)) ?_
      refine f_asi (pk_div (a := v) (d := (10 ^ 0)) (by omega) (by omega) (by omega)) ?_
      refine lv_bipush (v := 10) hx hb d_MO_digits_28 (by decide) ?_
      refine lv_irem hx hb d_MO_digits_30 (n_ne0 (a := 10) (by omega) (by omega)) ?_
      refine f_asi (pk_rem (a := (v / (10 ^ 0))) (d := 10) (by omega) (by omega) (by omega)) ?_
      refine lv_iadd hx hb d_MO_digits_31 ?_
      refine f_asi (nI_add 48 ((v / (10 ^ 0)) % 10)) ?_
      refine f_asi (congrArg nI hch) ?_
      have hzA := hI.2.2.2.1
      refine f_callv hI (f_runV C hI (c_MO_put l G h1 _ x (sb_dec v n) wi (T ++ dGk v n) mf1 g_x ⟨v_37, v_38, v_39⟩ (by rw [hTl]; omega)) gm_MO_put w_985 p_MO_put w_983 g_x rfl rfl rfl hl.1 rfl (Nat.le_of_ble_eq_true rfl) ⟨Nat.le_of_ble_eq_true rfl, Nat.le_of_ble_eq_true rfl⟩ d_MO_digits_32 ⟨Nat.le_of_ble_eq_true rfl, Nat.le_of_ble_eq_true rfl⟩) (fun h9 H9 locs hp9 hX9 hz9 hI => ?_)
      obtain ⟨mf_3, g_x, hm9, ⟨v_37, v_38, v_39⟩, hF9⟩ := hp9
      have hm1 : ∀ j, j < 37 → mf_3 j = mf j := fun j hj => (hm9 j hj).trans (hm1 j hj)
      have hF := hF.tr (hF9.mono (fun r _ q => (by simp at q ⊢; omega : r ∈ [40])))
      have hX := fX.tr (Nat.le_trans (Nat.le_of_eq hsz.symm) hzA) hX hX9
      refine lv_iload_n hx hb d_MO_digits_35 rfl (lv_at hl 2 rfl) ?_
      refine lv_bipush (v := 10) hx hb d_MO_digits_36 (by decide) ?_
      refine lv_idiv hx hb d_MO_digits_38 (n_ne0 (a := 10) (by omega) (by omega)) ?_
      refine f_asi (pk_div (a := (10 ^ 0)) (d := 10) (by omega) (by omega) (by omega)) ?_
      refine lv_istore_n (lv' := [(2, .int (nI ((10 ^ 0) / 10))), (0, .ref x), (1, .int (nI v))]) hx hb d_MO_digits_39 rfl hl (by decide) rfl (fun ls hl => ?_)
      refine lv_goto (tgt := 18) hx hb d_MO_digits_40 (by decide) ?_
      have eT : (T ++ dGk v n) ++ [sb_dec v n] = T ++ dGk v (n + 1) := by rw [dGk_s, List.append_assoc]
      rw [eT] at v_38 v_39
      rw [show n + 1 = sb_dg v by omega] at v_38 v_39
      refine lv_iload_n hx hb d_MO_digits_18 rfl (lv_at hl 0 rfl) ?_
      refine lv_if_le (tgt := 43) hx hb d_MO_digits_19 (by decide) (fun c_4 => ?_) (fun c_4 => absurd (by decide) c_4)
      exact f_vret C hr hI ⟨mf_3, g_x, hm1, ⟨v_37, v_38, v_39⟩, hF⟩ hX (Nat.le_refl _) (Nat.le_refl _) d_MO_digits_43
    | succ t ih =>
      intro n hn h1 mf1 H locs g_x v_37 v_38 v_39 hm1 hF hX hI ls hl
      have ih : ∀ n : Nat, n + (t + 1) = sb_dg v → ∀ (h1 : fH) (mf1 : Nat → Value) (H : Heap) (locs : List Loc), h1 x = some (40, 0, .inr (8, mo mf1)) → mf1 37 = .int wi → mf1 38 = .int (gtL wi (T ++ dGk v n)) → mf1 39 = .int (nI (T ++ dGk v n).length) → (∀ j, j < 37 → mf1 j = mf j) → fF (inR [40]) h h1 → fX h sz h1 → fI G.1 g_cl (fA h sz) s.heap h1 H locs → ∀ ls : Array Slot, lv_has ls 3 [(0, .ref x), (1, .int (nI v)), (2, .int (nI (10 ^ t)))] → W p l e { frames := 1, cells := 0, slots := 0, locals := 21 } s m ([.ref x, .int (nI v)] : List Value).toArray below meth c H locs 0 0 (MQ below (cQv G h sz (fun h' => ∃ mf', h' x = some (40, 0, .inr (8, mo mf')) ∧ (∀ j, j < 37 → mf' j = mf j) ∧ mW mf' wi (T ++ dG v) ∧ fF (inR [40]) h h')) ([.ref x, .int (nI v)] : List Value).toArray s 0 0 (fA h sz)) (F0 m 18 ls []) := ih
      have ht8 := p10_8 (t := t + 1) (by omega)
      have ht0 := p10_0 (t + 1)
      have hTl : (T ++ dGk v n).length = T.length + n := by rw [List.length_append, dGk_l]
      have hch : 48 + v / 10 ^ (t + 1) % 10 = sb_dec v n := by unfold sb_dec; rw [show sb_dg v - 1 - n = (t + 1) by omega]
      have hvd := Nat.div_le_self v (10 ^ (t + 1))
      refine lv_iload_n hx hb d_MO_digits_18 rfl (lv_at hl 2 rfl) ?_
      refine lv_if_le (tgt := 43) hx hb d_MO_digits_19 (by decide) (fun c_5 => absurd c_5 (fun q => absurd ((n_le (a := 10 ^ (t + 1)) (b := 0) (by omega) (by omega)).mp q) (by omega))) (fun c_5 => ?_)
      refine lv_aload_n hx hb d_MO_digits_22 rfl (lv_at hl 0 rfl) ?_
      refine lv_bipush (v := 48) hx hb d_MO_digits_23 (by decide) ?_
      refine lv_iload_n hx hb d_MO_digits_25 rfl (lv_at hl 1 rfl) ?_
      refine lv_iload_n hx hb d_MO_digits_26 rfl (lv_at hl 2 rfl) ?_
      refine lv_idiv hx hb d_MO_digits_27 (n_ne0 (a := (10 ^ (t + 1))) (by omega) (by omega)) ?_
      refine f_asi (pk_div (a := v) (d := (10 ^ (t + 1))) (by omega) (by omega) (by omega)) ?_
      refine lv_bipush (v := 10) hx hb d_MO_digits_28 (by decide) ?_
      refine lv_irem hx hb d_MO_digits_30 (n_ne0 (a := 10) (by omega) (by omega)) ?_
      refine f_asi (pk_rem (a := (v / (10 ^ (t + 1)))) (d := 10) (by omega) (by omega) (by omega)) ?_
      refine lv_iadd hx hb d_MO_digits_31 ?_
      refine f_asi (nI_add 48 ((v / (10 ^ (t + 1))) % 10)) ?_
      refine f_asi (congrArg nI hch) ?_
      have hzA := hI.2.2.2.1
      refine f_callv hI (f_runV C hI (c_MO_put l G h1 _ x (sb_dec v n) wi (T ++ dGk v n) mf1 g_x ⟨v_37, v_38, v_39⟩ (by rw [hTl]; omega)) gm_MO_put w_985 p_MO_put w_983 g_x rfl rfl rfl hl.1 rfl (Nat.le_of_ble_eq_true rfl) ⟨Nat.le_of_ble_eq_true rfl, Nat.le_of_ble_eq_true rfl⟩ d_MO_digits_32 ⟨Nat.le_of_ble_eq_true rfl, Nat.le_of_ble_eq_true rfl⟩) (fun h9 H9 locs hp9 hX9 hz9 hI => ?_)
      obtain ⟨mf_7, g_x, hm9, ⟨v_37, v_38, v_39⟩, hF9⟩ := hp9
      have hm1 : ∀ j, j < 37 → mf_7 j = mf j := fun j hj => (hm9 j hj).trans (hm1 j hj)
      have hF := hF.tr (hF9.mono (fun r _ q => (by simp at q ⊢; omega : r ∈ [40])))
      have hX := fX.tr (Nat.le_trans (Nat.le_of_eq hsz.symm) hzA) hX hX9
      refine lv_iload_n hx hb d_MO_digits_35 rfl (lv_at hl 2 rfl) ?_
      refine lv_bipush (v := 10) hx hb d_MO_digits_36 (by decide) ?_
      refine lv_idiv hx hb d_MO_digits_38 (n_ne0 (a := 10) (by omega) (by omega)) ?_
      refine f_asi (pk_div (a := (10 ^ (t + 1))) (d := 10) (by omega) (by omega) (by omega)) ?_
      refine lv_istore_n (lv' := [(2, .int (nI ((10 ^ (t + 1)) / 10))), (0, .ref x), (1, .int (nI v))]) hx hb d_MO_digits_39 rfl hl (by decide) rfl (fun ls hl => ?_)
      refine lv_goto (tgt := 18) hx hb d_MO_digits_40 (by decide) ?_
      have eT : (T ++ dGk v n) ++ [sb_dec v n] = T ++ dGk v (n + 1) := by rw [dGk_s, List.append_assoc]
      rw [eT] at v_38 v_39
      have e10 : 10 ^ (t + 1) / 10 = 10 ^ t := by rw [Nat.pow_succ, Nat.mul_div_cancel _ (by decide)]
      rw [e10] at hl
      have hl : lv_has ls 3 [(2, .int (nI (10 ^ t))), (0, .ref x), (1, .int (nI v))] := hl
      refine ih (n + 1) (by omega) _ mf_7 _ _ g_x v_37 v_38 v_39 hm1 hF hX hI ls ?_
      exact lv_sub hl [1, 2, 0] rfl
  have J2 : ∀ (k t : Nat), t + k + 1 = sb_dg v → ∀ (h1 : fH) (mf1 : Nat → Value) (H : Heap) (locs : List Loc), h1 x = some (40, 0, .inr (8, mo mf1)) → mf1 37 = .int wi → mf1 38 = .int (gtL wi T) → mf1 39 = .int (nI T.length) → (∀ j, j < 37 → mf1 j = mf j) → fF (inR [40]) h h1 → fX h sz h1 → fI G.1 g_cl (fA h sz) s.heap h1 H locs → ∀ ls : Array Slot, lv_has ls 3 [(0, .ref x), (1, .int (nI v)), (2, .int (nI (10 ^ t)))] → W p l e { frames := 1, cells := 0, slots := 0, locals := 21 } s m ([.ref x, .int (nI v)] : List Value).toArray below meth c H locs 0 0 (MQ below (cQv G h sz (fun h' => ∃ mf', h' x = some (40, 0, .inr (8, mo mf')) ∧ (∀ j, j < 37 → mf' j = mf j) ∧ mW mf' wi (T ++ dG v) ∧ fF (inR [40]) h h')) ([.ref x, .int (nI v)] : List Value).toArray s 0 0 (fA h sz)) (F0 m 2 ls []) := by
    intro k
    induction k with
    | zero =>
      intro t ht h1 mf1 H locs g_x v_37 v_38 v_39 hm1 hF hX hI ls hl
      have ht8 := p10_8 (t := t) (by omega)
      have ht0 := p10_0 t
      have hvd := Nat.div_le_self v (10 ^ t)
      refine lv_iload_n hx hb d_MO_digits_2 rfl (lv_at hl 1 rfl) ?_
      refine lv_iload_n hx hb d_MO_digits_3 rfl (lv_at hl 2 rfl) ?_
      refine lv_idiv hx hb d_MO_digits_4 (n_ne0 (a := (10 ^ t)) (by omega) (by omega)) ?_
      refine f_asi (pk_div (a := v) (d := (10 ^ t)) (by omega) (by omega) (by omega)) ?_
      refine lv_bipush (v := 9) hx hb d_MO_digits_5 (by decide) ?_
      refine lv_icmp_le (tgt := 18) hx hb d_MO_digits_7 (by decide) (fun c_8 => ?_) (fun c_8 => absurd ((n_le (a := v / 10 ^ t) (b := 9) (by omega) (by omega)).mpr (Nat.not_lt.mp (fun q => absurd ((dg_t bv).mp q) (by omega)))) c_8)
      have e0 : T = T ++ dGk v 0 := by simp [dGk]
      rw [e0] at v_38 v_39
      refine J18 t 0 (by omega) _ mf1 _ _ g_x v_37 v_38 v_39 hm1 hF hX hI ls ?_
      exact lv_sub hl [0, 1, 2] rfl
    | succ k ih =>
      intro t ht h1 mf1 H locs g_x v_37 v_38 v_39 hm1 hF hX hI ls hl
      have ht8 := p10_8 (t := t) (by omega)
      have ht0 := p10_0 t
      have hvd := Nat.div_le_self v (10 ^ t)
      have ih : ∀ t : Nat, t + k + 1 = sb_dg v → ∀ (h1 : fH) (mf1 : Nat → Value) (H : Heap) (locs : List Loc), h1 x = some (40, 0, .inr (8, mo mf1)) → mf1 37 = .int wi → mf1 38 = .int (gtL wi T) → mf1 39 = .int (nI T.length) → (∀ j, j < 37 → mf1 j = mf j) → fF (inR [40]) h h1 → fX h sz h1 → fI G.1 g_cl (fA h sz) s.heap h1 H locs → ∀ ls : Array Slot, lv_has ls 3 [(0, .ref x), (1, .int (nI v)), (2, .int (nI (10 ^ t)))] → W p l e { frames := 1, cells := 0, slots := 0, locals := 21 } s m ([.ref x, .int (nI v)] : List Value).toArray below meth c H locs 0 0 (MQ below (cQv G h sz (fun h' => ∃ mf', h' x = some (40, 0, .inr (8, mo mf')) ∧ (∀ j, j < 37 → mf' j = mf j) ∧ mW mf' wi (T ++ dG v) ∧ fF (inR [40]) h h')) ([.ref x, .int (nI v)] : List Value).toArray s 0 0 (fA h sz)) (F0 m 2 ls []) := ih
      refine lv_iload_n hx hb d_MO_digits_2 rfl (lv_at hl 1 rfl) ?_
      refine lv_iload_n hx hb d_MO_digits_3 rfl (lv_at hl 2 rfl) ?_
      refine lv_idiv hx hb d_MO_digits_4 (n_ne0 (a := (10 ^ t)) (by omega) (by omega)) ?_
      refine f_asi (pk_div (a := v) (d := (10 ^ t)) (by omega) (by omega) (by omega)) ?_
      refine lv_bipush (v := 9) hx hb d_MO_digits_5 (by decide) ?_
      refine lv_icmp_le (tgt := 18) hx hb d_MO_digits_7 (by decide) (fun c_9 => absurd c_9 (fun q => absurd ((n_le (a := v / 10 ^ t) (b := 9) (by omega) (by omega)).mp q) (Nat.not_le.mpr ((dg_t bv).mpr (by omega))))) (fun c_9 => ?_)
      refine lv_iload_n hx hb d_MO_digits_10 rfl (lv_at hl 2 rfl) ?_
      refine lv_bipush (v := 10) hx hb d_MO_digits_11 (by decide) ?_
      refine lv_imul hx hb d_MO_digits_13 ?_
      refine f_asi (pk_mul (10 ^ t) 10) ?_
      refine lv_istore_n (lv' := [(2, .int (nI ((10 ^ t) * 10))), (0, .ref x), (1, .int (nI v))]) hx hb d_MO_digits_14 rfl hl (by decide) rfl (fun ls hl => ?_)
      refine lv_goto (tgt := 2) hx hb d_MO_digits_15 (by decide) ?_
      refine ih (t + 1) (by omega) _ mf1 _ _ g_x v_37 v_38 v_39 hm1 hF hX hI ls ?_
      exact lv_sub hl [1, 2, 0] rfl
  refine lv_iconst (v := 1) hx hb d_MO_digits_0 (by decide) ?_
  refine lv_istore_n (lv' := [(2, .int 1), (0, .ref x), (1, .int (nI v))]) hx hb d_MO_digits_1 rfl hl (by decide) rfl (fun ls hl => ?_)
  refine J2 (sb_dg v - 1) 0 (by omega) _ mf _ _ g_x v_37 v_38 v_39 hm1 hF hX hI ls ?_
  exact lv_sub hl [1, 2, 0] rfl
