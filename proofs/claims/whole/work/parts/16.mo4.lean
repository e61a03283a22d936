set_option maxHeartbeats 4000000 in
set_option maxRecDepth 100000 in
/-- MO_reckon  -/
theorem c_MO_reckon (l : Launch) (G : gG) (h : fH) (sz : Nat) (x lot day on : Nat) (mf : Nat → Value) (g_x : h x = some (40, 0, .inr (8, mo mf))) (nf : Nat) (fl fk fd fw fv : Nat → Nat) (hFc : mFc G h mf nf fl fk fd fw fv) (ne : Nat) (ef rr rm : Nat → Nat) (hEd : mEd G h mf ne ef rr rm) (rs : Int32) (ns : Nat) (sl sr sc : Nat → Nat) (fr ce : Nat) (hSt : mSt G h mf rs ns sl sr sc fr ce) (blot : lot < 30) (bday : day ≤ 100000) (bon : on ≤ 100000) : cM l y_MO_reckon b_MO_reckon 25 (some .boolean) { frames := 1, cells := 0, slots := 0, locals := 29 } G [.ref x, .int (nI lot), .long (lN day), .long (lN on)] h sz (cQi G h sz (fun r h' => r = (if (rk (mK nf fl fk fd fw fv lot day on) (mE ne ef rr rm day)).1 = -1 then 1 else 0) ∧ ∃ mf', h' x = some (40, 0, .inr (8, mo mf')) ∧ (∀ j, j < 14 ∨ 20 < j → mf' j = mf j) ∧ mSd G h' mf' (rk (mK nf fl fk fd fw fv lot day on) (mE ne ef rr rm day)).1 (rk (mK nf fl fk fd fw fv lot day on) (mE ne ef rr rm day)).2 ∧ fF (inR [40, 56, 57, 58]) h h')) := by
  refine f_start (by decide) (Nat.le_of_ble_eq_true rfl) ?_
  intro p e s m below meth c ls C hr hsz hI hl
  obtain ⟨hx, hb, hml, hown, hnm, hlk, hT, hG, hZ⟩ := id C
  have hK := hG.1
  have hX : fX h sz h := fX.rf
  have hl : lv_has ls 25 [(0, .ref x), (1, .int (nI lot)), (2, .long (lN day)), (4, .long (lN on))] := hl
  have hF : fF (inR [40, 56, 57, 58]) h h := fF.rf
  obtain ⟨_, _, _, _, _, bne, brm, bef, brr, brk⟩ := id hEd
  have JB := x_MO_reckon l G h sz x lot day on mf g_x nf fl fk fd fw fv hFc ne ef rr rm hEd rs ns sl sr sc fr ce hSt blot bday bon p e s m below meth c C hr hsz
  have hm1 : ∀ j, j < 14 ∨ 20 < j → mf j = mf j := fun _ _ => rfl
  obtain ⟨a15, a16, a17, ⟨v_14, v_15, v_16, v_17, v_18, v_19, v_20⟩, ⟨g_a15, g_a16, g_a17⟩⟩ := hSt
  obtain ⟨a7, a8, a9, a10, a11, ⟨v_7, v_8, v_9, v_10, v_11, v_12⟩, ⟨g_a7, g_a8, g_a9, g_a10, g_a11⟩, bnf, bfl, bfk, bfd, bfw, bfv0⟩ := id hFc
  have bfv : ∀ i, fv i ≤ 100000000 := fun i => Nat.le_trans (bfv0 i) (mostN_le _)
  have bl31 : lot < 2 ^ 31 := by omega
  have bd31 : day < 2 ^ 31 := by omega
  have bo31 : on < 2 ^ 31 := by omega
  have hz0 := hI.2.2.2.1
  refine lv_aload_n hx hb d_MO_reckon_0 rfl (lv_at hl 0 rfl) ?_
  refine lv_iconst (v := 0) hx hb d_MO_reckon_1 (by decide) ?_
  refine f_put (C := "DutyRulesModel") (T := T_MO) (N := 40) (fs' := mo (va_up mf 18 (.int 0))) (v := .int 0) hx hb (fun w q => hT w (s_MO w q)) t_MO k_MO n_MO hown hK hI g_x (by decide) rfl 18 (by decide) (hT _ w_827) (fun _ q => q) rfl rfl rfl (by rw [mo_len]; decide) (mo_set _) d_MO_reckon_2 (fun H locs hI => ?_)
  generalize emf_1 : va_up mf 18 (.int 0) = mf_1 at hI
  have v_11 : mf_1 11 = .ref a11 := (congrFun emf_1 11).symm.trans ((va_up_ne _ _ (by decide)).trans v_11)
  have v_14 : mf_1 14 = .int rs := (congrFun emf_1 14).symm.trans ((va_up_ne _ _ (by decide)).trans v_14)
  have v_15 : mf_1 15 = .ref a15 := (congrFun emf_1 15).symm.trans ((va_up_ne _ _ (by decide)).trans v_15)
  have v_16 : mf_1 16 = .ref a16 := (congrFun emf_1 16).symm.trans ((va_up_ne _ _ (by decide)).trans v_16)
  have v_17 : mf_1 17 = .ref a17 := (congrFun emf_1 17).symm.trans ((va_up_ne _ _ (by decide)).trans v_17)
  have v_19 : mf_1 19 = .long (lN fr) := (congrFun emf_1 19).symm.trans ((va_up_ne _ _ (by decide)).trans v_19)
  have v_20 : mf_1 20 = .long (lN ce) := (congrFun emf_1 20).symm.trans ((va_up_ne _ _ (by decide)).trans v_20)
  have v_18 : mf_1 18 = .int 0 := (congrFun emf_1 18).symm.trans (va_up_self _ _ _)
  generalize eh_2 : fU h x (40, 0, .inr (8, mo mf_1)) = h_2 at hI
  have hX := hX.set (e := .inr (8, mo mf_1)) g_x (by decide); rw [eh_2] at hX
  have hF := hF.set (e := .inr (8, mo mf_1)) g_x (by decide); rw [eh_2] at hF
  have g_a15 : h_2 a15 = some (56, 0, .inl ((G.2.1 0), 5, .inl (fun i => nI (sl i)))) := (congrFun eh_2 a15).symm.trans (fU_keep g_a15 (f_neR g_a15 g_x (by decide)))
  have g_a16 : h_2 a16 = some (57, 0, .inl ((G.2.1 0), 5, .inl (fun i => nI (sr i)))) := (congrFun eh_2 a16).symm.trans (fU_keep g_a16 (f_neR g_a16 g_x (by decide)))
  have g_a17 : h_2 a17 = some (58, 0, .inl ((G.2.1 1), 5, .inr (.inl (fun i => lN (sc i))))) := (congrFun eh_2 a17).symm.trans (fU_keep g_a17 (f_neR g_a17 g_x (by decide)))
  have g_a11 : h_2 a11 = some (52, 0, .inl ((G.2.1 1), 300, .inr (.inl (fun i => lN (fv i))))) := (congrFun eh_2 a11).symm.trans (fU_keep g_a11 (f_neR g_a11 g_x (by decide)))
  have hW9 : fF (inR [40]) h h_2 := by rw [← eh_2]; exact fF.rf.set g_x (by decide)
  have g_x : h_2 x = some (40, 0, .inr (8, mo mf_1)) := (congrFun eh_2 x).symm.trans (fU_self _ _ _)
  have hFc := mFc.keep (mf' := mf_1) hFc (fun j h1 h2 => (congrFun emf_1 j).symm.trans (va_up_ne _ _ (ne_out h1 h2 (by decide)))) hW9 (by decide)
  have hEd := mEd.keep (mf' := mf_1) hEd (fun j h1 h2 => (congrFun emf_1 j).symm.trans (va_up_ne _ _ (ne_out h1 h2 (by decide)))) hW9 (by decide)
  have hm1 : ∀ j, j < 14 ∨ 20 < j → mf_1 j = mf j := fun j hj => (congrFun emf_1 j).symm.trans ((va_up_ne _ _ (ne_rng hj (by decide))).trans (hm1 j hj))
  refine lv_aload_n hx hb d_MO_reckon_5 rfl (lv_at hl 0 rfl) ?_
  refine lv_lconst (v := 0) hx hb d_MO_reckon_6 (by decide) ?_
  refine f_put (C := "DutyRulesModel") (T := T_MO) (N := 40) (fs' := mo (va_up mf_1 19 (.long 0))) (v := .long 0) hx hb (fun w q => hT w (s_MO w q)) t_MO k_MO n_MO hown hK hI g_x (by decide) rfl 19 (by decide) (hT _ w_828) (fun _ q => q) rfl rfl rfl (by rw [mo_len]; decide) (mo_set _) d_MO_reckon_7 (fun H locs hI => ?_)
  generalize emf_3 : va_up mf_1 19 (.long 0) = mf_3 at hI
  have v_11 : mf_3 11 = .ref a11 := (congrFun emf_3 11).symm.trans ((va_up_ne _ _ (by decide)).trans v_11)
  have v_14 : mf_3 14 = .int rs := (congrFun emf_3 14).symm.trans ((va_up_ne _ _ (by decide)).trans v_14)
  have v_15 : mf_3 15 = .ref a15 := (congrFun emf_3 15).symm.trans ((va_up_ne _ _ (by decide)).trans v_15)
  have v_16 : mf_3 16 = .ref a16 := (congrFun emf_3 16).symm.trans ((va_up_ne _ _ (by decide)).trans v_16)
  have v_17 : mf_3 17 = .ref a17 := (congrFun emf_3 17).symm.trans ((va_up_ne _ _ (by decide)).trans v_17)
  have v_18 : mf_3 18 = .int 0 := (congrFun emf_3 18).symm.trans ((va_up_ne _ _ (by decide)).trans v_18)
  have v_20 : mf_3 20 = .long (lN ce) := (congrFun emf_3 20).symm.trans ((va_up_ne _ _ (by decide)).trans v_20)
  have v_19 : mf_3 19 = .long 0 := (congrFun emf_3 19).symm.trans (va_up_self _ _ _)
  generalize eh_4 : fU h_2 x (40, 0, .inr (8, mo mf_3)) = h_4 at hI
  have hX := hX.set (e := .inr (8, mo mf_3)) g_x (by decide); rw [eh_4] at hX
  have hF := hF.set (e := .inr (8, mo mf_3)) g_x (by decide); rw [eh_4] at hF
  have g_a15 : h_4 a15 = some (56, 0, .inl ((G.2.1 0), 5, .inl (fun i => nI (sl i)))) := (congrFun eh_4 a15).symm.trans (fU_keep g_a15 (f_neR g_a15 g_x (by decide)))
  have g_a16 : h_4 a16 = some (57, 0, .inl ((G.2.1 0), 5, .inl (fun i => nI (sr i)))) := (congrFun eh_4 a16).symm.trans (fU_keep g_a16 (f_neR g_a16 g_x (by decide)))
  have g_a17 : h_4 a17 = some (58, 0, .inl ((G.2.1 1), 5, .inr (.inl (fun i => lN (sc i))))) := (congrFun eh_4 a17).symm.trans (fU_keep g_a17 (f_neR g_a17 g_x (by decide)))
  have g_a11 : h_4 a11 = some (52, 0, .inl ((G.2.1 1), 300, .inr (.inl (fun i => lN (fv i))))) := (congrFun eh_4 a11).symm.trans (fU_keep g_a11 (f_neR g_a11 g_x (by decide)))
  have hW9 : fF (inR [40]) h_2 h_4 := by rw [← eh_4]; exact fF.rf.set g_x (by decide)
  have g_x : h_4 x = some (40, 0, .inr (8, mo mf_3)) := (congrFun eh_4 x).symm.trans (fU_self _ _ _)
  have hFc := mFc.keep (mf' := mf_3) hFc (fun j h1 h2 => (congrFun emf_3 j).symm.trans (va_up_ne _ _ (ne_out h1 h2 (by decide)))) hW9 (by decide)
  have hEd := mEd.keep (mf' := mf_3) hEd (fun j h1 h2 => (congrFun emf_3 j).symm.trans (va_up_ne _ _ (ne_out h1 h2 (by decide)))) hW9 (by decide)
  have hm1 : ∀ j, j < 14 ∨ 20 < j → mf_3 j = mf j := fun j hj => (congrFun emf_3 j).symm.trans ((va_up_ne _ _ (ne_rng hj (by decide))).trans (hm1 j hj))
  refine lv_aload_n hx hb d_MO_reckon_10 rfl (lv_at hl 0 rfl) ?_
  refine lv_lconst (v := 0) hx hb d_MO_reckon_11 (by decide) ?_
  refine f_put (C := "DutyRulesModel") (T := T_MO) (N := 40) (fs' := mo (va_up mf_3 20 (.long 0))) (v := .long 0) hx hb (fun w q => hT w (s_MO w q)) t_MO k_MO n_MO hown hK hI g_x (by decide) rfl 20 (by decide) (hT _ w_829) (fun _ q => q) rfl rfl rfl (by rw [mo_len]; decide) (mo_set _) d_MO_reckon_12 (fun H locs hI => ?_)
  generalize emf_5 : va_up mf_3 20 (.long 0) = mf_5 at hI
  have v_11 : mf_5 11 = .ref a11 := (congrFun emf_5 11).symm.trans ((va_up_ne _ _ (by decide)).trans v_11)
  have v_14 : mf_5 14 = .int rs := (congrFun emf_5 14).symm.trans ((va_up_ne _ _ (by decide)).trans v_14)
  have v_15 : mf_5 15 = .ref a15 := (congrFun emf_5 15).symm.trans ((va_up_ne _ _ (by decide)).trans v_15)
  have v_16 : mf_5 16 = .ref a16 := (congrFun emf_5 16).symm.trans ((va_up_ne _ _ (by decide)).trans v_16)
  have v_17 : mf_5 17 = .ref a17 := (congrFun emf_5 17).symm.trans ((va_up_ne _ _ (by decide)).trans v_17)
  have v_18 : mf_5 18 = .int 0 := (congrFun emf_5 18).symm.trans ((va_up_ne _ _ (by decide)).trans v_18)
  have v_19 : mf_5 19 = .long 0 := (congrFun emf_5 19).symm.trans ((va_up_ne _ _ (by decide)).trans v_19)
  have v_20 : mf_5 20 = .long 0 := (congrFun emf_5 20).symm.trans (va_up_self _ _ _)
  generalize eh_6 : fU h_4 x (40, 0, .inr (8, mo mf_5)) = h_6 at hI
  have hX := hX.set (e := .inr (8, mo mf_5)) g_x (by decide); rw [eh_6] at hX
  have hF := hF.set (e := .inr (8, mo mf_5)) g_x (by decide); rw [eh_6] at hF
  have g_a15 : h_6 a15 = some (56, 0, .inl ((G.2.1 0), 5, .inl (fun i => nI (sl i)))) := (congrFun eh_6 a15).symm.trans (fU_keep g_a15 (f_neR g_a15 g_x (by decide)))
  have g_a16 : h_6 a16 = some (57, 0, .inl ((G.2.1 0), 5, .inl (fun i => nI (sr i)))) := (congrFun eh_6 a16).symm.trans (fU_keep g_a16 (f_neR g_a16 g_x (by decide)))
  have g_a17 : h_6 a17 = some (58, 0, .inl ((G.2.1 1), 5, .inr (.inl (fun i => lN (sc i))))) := (congrFun eh_6 a17).symm.trans (fU_keep g_a17 (f_neR g_a17 g_x (by decide)))
  have g_a11 : h_6 a11 = some (52, 0, .inl ((G.2.1 1), 300, .inr (.inl (fun i => lN (fv i))))) := (congrFun eh_6 a11).symm.trans (fU_keep g_a11 (f_neR g_a11 g_x (by decide)))
  have hW9 : fF (inR [40]) h_4 h_6 := by rw [← eh_6]; exact fF.rf.set g_x (by decide)
  have g_x : h_6 x = some (40, 0, .inr (8, mo mf_5)) := (congrFun eh_6 x).symm.trans (fU_self _ _ _)
  have hFc := mFc.keep (mf' := mf_5) hFc (fun j h1 h2 => (congrFun emf_5 j).symm.trans (va_up_ne _ _ (ne_out h1 h2 (by decide)))) hW9 (by decide)
  have hEd := mEd.keep (mf' := mf_5) hEd (fun j h1 h2 => (congrFun emf_5 j).symm.trans (va_up_ne _ _ (ne_out h1 h2 (by decide)))) hW9 (by decide)
  have hm1 : ∀ j, j < 14 ∨ 20 < j → mf_5 j = mf j := fun j hj => (congrFun emf_5 j).symm.trans ((va_up_ne _ _ (ne_rng hj (by decide))).trans (hm1 j hj))
  refine lv_aload_n hx hb d_MO_reckon_15 rfl (lv_at hl 0 rfl) ?_
  refine lv_lload_n hx hb d_MO_reckon_16 rfl (lv_at hl 2 rfl) ?_
  refine f_calli hI (f_runV C hI (c_MO_editionOf l G h_6 _ x day mf_5 g_x ne ef rr rm hEd bd31) gm_MO_editionOf w_1024 p_MO_editionOf w_1022 g_x rfl rfl rfl hl.1 rfl (Nat.le_of_ble_eq_true rfl) ⟨Nat.le_of_ble_eq_true rfl, Nat.le_of_ble_eq_true rfl⟩ d_MO_reckon_17 ⟨Nat.le_of_ble_eq_true rfl, Nat.le_of_ble_eq_true rfl⟩) (fun r_7 h8 H9 locs hp9 hX9 hz9 hI => ?_)
  obtain ⟨rfl, e9⟩ := hp9
  rw [e9] at hI
  clear hX9 e9
  rcases en : eo ef day ne with _ | e1
  · skip
    refine lv_istore (lv' := [(6, .int (-1)), (0, .ref x), (1, .int (nI lot)), (2, .long (lN day)), (4, .long (lN on))]) hx hb d_MO_reckon_20 hl (by decide) rfl (fun ls hl => ?_)
    refine lv_aload_n hx hb d_MO_reckon_22 rfl (lv_at hl 1 rfl) ?_
    refine lv_bipush (v := 20) hx hb d_MO_reckon_23 (by decide) ?_
    refine f_put (C := "DutyRulesModel") (T := T_MO) (N := 40) (fs' := mo (va_up mf_5 14 (.int 20))) (v := .int 20) hx hb (fun w q => hT w (s_MO w q)) t_MO k_MO n_MO hown hK hI g_x (by decide) rfl 14 (by decide) (hT _ w_823) (fun _ q => q) rfl rfl rfl (by rw [mo_len]; decide) (mo_set _) d_MO_reckon_25 (fun H locs hI => ?_)
    generalize emf_8 : va_up mf_5 14 (.int 20) = mf_8 at hI
    have v_11 : mf_8 11 = .ref a11 := (congrFun emf_8 11).symm.trans ((va_up_ne _ _ (by decide)).trans v_11)
    have v_15 : mf_8 15 = .ref a15 := (congrFun emf_8 15).symm.trans ((va_up_ne _ _ (by decide)).trans v_15)
    have v_16 : mf_8 16 = .ref a16 := (congrFun emf_8 16).symm.trans ((va_up_ne _ _ (by decide)).trans v_16)
    have v_17 : mf_8 17 = .ref a17 := (congrFun emf_8 17).symm.trans ((va_up_ne _ _ (by decide)).trans v_17)
    have v_18 : mf_8 18 = .int 0 := (congrFun emf_8 18).symm.trans ((va_up_ne _ _ (by decide)).trans v_18)
    have v_19 : mf_8 19 = .long 0 := (congrFun emf_8 19).symm.trans ((va_up_ne _ _ (by decide)).trans v_19)
    have v_20 : mf_8 20 = .long 0 := (congrFun emf_8 20).symm.trans ((va_up_ne _ _ (by decide)).trans v_20)
    have v_14 : mf_8 14 = .int 20 := (congrFun emf_8 14).symm.trans (va_up_self _ _ _)
    generalize eh_9 : fU h_6 x (40, 0, .inr (8, mo mf_8)) = h_9 at hI
    have hX := hX.set (e := .inr (8, mo mf_8)) g_x (by decide); rw [eh_9] at hX
    have hF := hF.set (e := .inr (8, mo mf_8)) g_x (by decide); rw [eh_9] at hF
    have g_a15 : h_9 a15 = some (56, 0, .inl ((G.2.1 0), 5, .inl (fun i => nI (sl i)))) := (congrFun eh_9 a15).symm.trans (fU_keep g_a15 (f_neR g_a15 g_x (by decide)))
    have g_a16 : h_9 a16 = some (57, 0, .inl ((G.2.1 0), 5, .inl (fun i => nI (sr i)))) := (congrFun eh_9 a16).symm.trans (fU_keep g_a16 (f_neR g_a16 g_x (by decide)))
    have g_a17 : h_9 a17 = some (58, 0, .inl ((G.2.1 1), 5, .inr (.inl (fun i => lN (sc i))))) := (congrFun eh_9 a17).symm.trans (fU_keep g_a17 (f_neR g_a17 g_x (by decide)))
    have g_a11 : h_9 a11 = some (52, 0, .inl ((G.2.1 1), 300, .inr (.inl (fun i => lN (fv i))))) := (congrFun eh_9 a11).symm.trans (fU_keep g_a11 (f_neR g_a11 g_x (by decide)))
    have hW9 : fF (inR [40]) h_6 h_9 := by rw [← eh_9]; exact fF.rf.set g_x (by decide)
    have g_x : h_9 x = some (40, 0, .inr (8, mo mf_8)) := (congrFun eh_9 x).symm.trans (fU_self _ _ _)
    have hFc := mFc.keep (mf' := mf_8) hFc (fun j h1 h2 => (congrFun emf_8 j).symm.trans (va_up_ne _ _ (ne_out h1 h2 (by decide)))) hW9 (by decide)
    have hEd := mEd.keep (mf' := mf_8) hEd (fun j h1 h2 => (congrFun emf_8 j).symm.trans (va_up_ne _ _ (ne_out h1 h2 (by decide)))) hW9 (by decide)
    have hm1 : ∀ j, j < 14 ∨ 20 < j → mf_8 j = mf j := fun j hj => (congrFun emf_8 j).symm.trans ((va_up_ne _ _ (ne_rng hj (by decide))).trans (hm1 j hj))
    refine lv_iload hx hb d_MO_reckon_28 (lv_at hl 0 rfl) ?_
    refine lv_iconst (v := (-1)) hx hb d_MO_reckon_30 (by decide) ?_
    refine lv_icmp_ne (tgt := 36) hx hb d_MO_reckon_31 (by decide) (fun c_10 => absurd rfl c_10) (fun c_10 => ?_)
    refine lv_iconst (v := 0) hx hb d_MO_reckon_34 (by decide) ?_
    have hrk : rk (mK nf fl fk fd fw fv lot day on) (mE ne ef rr rm day) = (20, d0) := by unfold mE; rw [en]; rfl
    exact f_zret C hr rfl hI ⟨by rw [hrk]; rfl, mf_8, g_x, hm1, by rw [hrk]; exact ⟨sl, sr, sc, ⟨a15, a16, a17, ⟨v_14, v_15, v_16, v_17, v_18, v_19, v_20⟩, ⟨g_a15, g_a16, g_a17⟩⟩, fun i q hi => by simp [d0] at hi⟩, hF⟩ hX (Nat.le_refl _) (Nat.le_refl _) d_MO_reckon_35
  · have hen := eo_lt en
    have be : e1 < 11 := by omega
    have hed : mE ne ef rr rm day = some (mF rr rm e1, mV rr e1) := by unfold mE; rw [en]
    refine lv_istore (lv' := [(6, .int (nI e1)), (0, .ref x), (1, .int (nI lot)), (2, .long (lN day)), (4, .long (lN on))]) hx hb d_MO_reckon_20 hl (by decide) rfl (fun ls hl => ?_)
    refine lv_aload_n hx hb d_MO_reckon_22 rfl (lv_at hl 1 rfl) ?_
    refine lv_bipush (v := 20) hx hb d_MO_reckon_23 (by decide) ?_
    refine f_put (C := "DutyRulesModel") (T := T_MO) (N := 40) (fs' := mo (va_up mf_5 14 (.int 20))) (v := .int 20) hx hb (fun w q => hT w (s_MO w q)) t_MO k_MO n_MO hown hK hI g_x (by decide) rfl 14 (by decide) (hT _ w_823) (fun _ q => q) rfl rfl rfl (by rw [mo_len]; decide) (mo_set _) d_MO_reckon_25 (fun H locs hI => ?_)
    generalize emf_11 : va_up mf_5 14 (.int 20) = mf_11 at hI
    have v_11 : mf_11 11 = .ref a11 := (congrFun emf_11 11).symm.trans ((va_up_ne _ _ (by decide)).trans v_11)
    have v_15 : mf_11 15 = .ref a15 := (congrFun emf_11 15).symm.trans ((va_up_ne _ _ (by decide)).trans v_15)
    have v_16 : mf_11 16 = .ref a16 := (congrFun emf_11 16).symm.trans ((va_up_ne _ _ (by decide)).trans v_16)
    have v_17 : mf_11 17 = .ref a17 := (congrFun emf_11 17).symm.trans ((va_up_ne _ _ (by decide)).trans v_17)
    have v_18 : mf_11 18 = .int 0 := (congrFun emf_11 18).symm.trans ((va_up_ne _ _ (by decide)).trans v_18)
    have v_19 : mf_11 19 = .long 0 := (congrFun emf_11 19).symm.trans ((va_up_ne _ _ (by decide)).trans v_19)
    have v_20 : mf_11 20 = .long 0 := (congrFun emf_11 20).symm.trans ((va_up_ne _ _ (by decide)).trans v_20)
    have v_14 : mf_11 14 = .int 20 := (congrFun emf_11 14).symm.trans (va_up_self _ _ _)
    generalize eh_12 : fU h_6 x (40, 0, .inr (8, mo mf_11)) = h_12 at hI
    have hX := hX.set (e := .inr (8, mo mf_11)) g_x (by decide); rw [eh_12] at hX
    have hF := hF.set (e := .inr (8, mo mf_11)) g_x (by decide); rw [eh_12] at hF
    have g_a15 : h_12 a15 = some (56, 0, .inl ((G.2.1 0), 5, .inl (fun i => nI (sl i)))) := (congrFun eh_12 a15).symm.trans (fU_keep g_a15 (f_neR g_a15 g_x (by decide)))
    have g_a16 : h_12 a16 = some (57, 0, .inl ((G.2.1 0), 5, .inl (fun i => nI (sr i)))) := (congrFun eh_12 a16).symm.trans (fU_keep g_a16 (f_neR g_a16 g_x (by decide)))
    have g_a17 : h_12 a17 = some (58, 0, .inl ((G.2.1 1), 5, .inr (.inl (fun i => lN (sc i))))) := (congrFun eh_12 a17).symm.trans (fU_keep g_a17 (f_neR g_a17 g_x (by decide)))
    have g_a11 : h_12 a11 = some (52, 0, .inl ((G.2.1 1), 300, .inr (.inl (fun i => lN (fv i))))) := (congrFun eh_12 a11).symm.trans (fU_keep g_a11 (f_neR g_a11 g_x (by decide)))
    have hW9 : fF (inR [40]) h_6 h_12 := by rw [← eh_12]; exact fF.rf.set g_x (by decide)
    have g_x : h_12 x = some (40, 0, .inr (8, mo mf_11)) := (congrFun eh_12 x).symm.trans (fU_self _ _ _)
    have hFc := mFc.keep (mf' := mf_11) hFc (fun j h1 h2 => (congrFun emf_11 j).symm.trans (va_up_ne _ _ (ne_out h1 h2 (by decide)))) hW9 (by decide)
    have hEd := mEd.keep (mf' := mf_11) hEd (fun j h1 h2 => (congrFun emf_11 j).symm.trans (va_up_ne _ _ (ne_out h1 h2 (by decide)))) hW9 (by decide)
    have hm1 : ∀ j, j < 14 ∨ 20 < j → mf_11 j = mf j := fun j hj => (congrFun emf_11 j).symm.trans ((va_up_ne _ _ (ne_rng hj (by decide))).trans (hm1 j hj))
    refine lv_iload hx hb d_MO_reckon_28 (lv_at hl 0 rfl) ?_
    refine lv_iconst (v := (-1)) hx hb d_MO_reckon_30 (by decide) ?_
    refine lv_icmp_ne (tgt := 36) hx hb d_MO_reckon_31 (by decide) (fun c_13 => ?_) (fun c_13 => absurd c_13 (n_m1 (by omega)))
    refine lv_iconst (v := 0) hx hb d_MO_reckon_36 (by decide) ?_
    refine lv_istore (lv' := [(7, .int 0), (6, .int (nI e1)), (0, .ref x), (1, .int (nI lot)), (2, .long (lN day)), (4, .long (lN on))]) hx hb d_MO_reckon_37 hl (by decide) rfl (fun ls hl => ?_)
    refine lv_iload hx hb d_MO_reckon_39 (lv_at hl 0 rfl) ?_
    refine lv_iconst (v := 3) hx hb d_MO_reckon_41 (by decide) ?_
    refine lv_icmp_ge (tgt := 73) hx hb d_MO_reckon_42 (by decide) (fun c_14 => absurd c_14 (by decide)) (fun c_14 => ?_)
    refine lv_aload_n hx hb d_MO_reckon_45 rfl (lv_at hl 2 rfl) ?_
    refine lv_iload hx hb d_MO_reckon_46 (lv_at hl 0 rfl) ?_
    refine f_put (C := "DutyRulesModel") (T := T_MO) (N := 40) (fs' := mo (va_up mf_11 14 (.int 0))) (v := .int 0) hx hb (fun w q => hT w (s_MO w q)) t_MO k_MO n_MO hown hK hI g_x (by decide) rfl 14 (by decide) (hT _ w_823) (fun _ q => q) rfl rfl rfl (by rw [mo_len]; decide) (mo_set _) d_MO_reckon_48 (fun H locs hI => ?_)
    generalize emf_15 : va_up mf_11 14 (.int 0) = mf_15 at hI
    have v_11 : mf_15 11 = .ref a11 := (congrFun emf_15 11).symm.trans ((va_up_ne _ _ (by decide)).trans v_11)
    have v_15 : mf_15 15 = .ref a15 := (congrFun emf_15 15).symm.trans ((va_up_ne _ _ (by decide)).trans v_15)
    have v_16 : mf_15 16 = .ref a16 := (congrFun emf_15 16).symm.trans ((va_up_ne _ _ (by decide)).trans v_16)
    have v_17 : mf_15 17 = .ref a17 := (congrFun emf_15 17).symm.trans ((va_up_ne _ _ (by decide)).trans v_17)
    have v_18 : mf_15 18 = .int 0 := (congrFun emf_15 18).symm.trans ((va_up_ne _ _ (by decide)).trans v_18)
    have v_19 : mf_15 19 = .long 0 := (congrFun emf_15 19).symm.trans ((va_up_ne _ _ (by decide)).trans v_19)
    have v_20 : mf_15 20 = .long 0 := (congrFun emf_15 20).symm.trans ((va_up_ne _ _ (by decide)).trans v_20)
    have v_14 : mf_15 14 = .int 0 := (congrFun emf_15 14).symm.trans (va_up_self _ _ _)
    generalize eh_16 : fU h_12 x (40, 0, .inr (8, mo mf_15)) = h_16 at hI
    have hX := hX.set (e := .inr (8, mo mf_15)) g_x (by decide); rw [eh_16] at hX
    have hF := hF.set (e := .inr (8, mo mf_15)) g_x (by decide); rw [eh_16] at hF
    have g_a15 : h_16 a15 = some (56, 0, .inl ((G.2.1 0), 5, .inl (fun i => nI (sl i)))) := (congrFun eh_16 a15).symm.trans (fU_keep g_a15 (f_neR g_a15 g_x (by decide)))
    have g_a16 : h_16 a16 = some (57, 0, .inl ((G.2.1 0), 5, .inl (fun i => nI (sr i)))) := (congrFun eh_16 a16).symm.trans (fU_keep g_a16 (f_neR g_a16 g_x (by decide)))
    have g_a17 : h_16 a17 = some (58, 0, .inl ((G.2.1 1), 5, .inr (.inl (fun i => lN (sc i))))) := (congrFun eh_16 a17).symm.trans (fU_keep g_a17 (f_neR g_a17 g_x (by decide)))
    have g_a11 : h_16 a11 = some (52, 0, .inl ((G.2.1 1), 300, .inr (.inl (fun i => lN (fv i))))) := (congrFun eh_16 a11).symm.trans (fU_keep g_a11 (f_neR g_a11 g_x (by decide)))
    have hW9 : fF (inR [40]) h_12 h_16 := by rw [← eh_16]; exact fF.rf.set g_x (by decide)
    have g_x : h_16 x = some (40, 0, .inr (8, mo mf_15)) := (congrFun eh_16 x).symm.trans (fU_self _ _ _)
    have hFc := mFc.keep (mf' := mf_15) hFc (fun j h1 h2 => (congrFun emf_15 j).symm.trans (va_up_ne _ _ (ne_out h1 h2 (by decide)))) hW9 (by decide)
    have hEd := mEd.keep (mf' := mf_15) hEd (fun j h1 h2 => (congrFun emf_15 j).symm.trans (va_up_ne _ _ (ne_out h1 h2 (by decide)))) hW9 (by decide)
    have hm1 : ∀ j, j < 14 ∨ 20 < j → mf_15 j = mf j := fun j hj => (congrFun emf_15 j).symm.trans ((va_up_ne _ _ (ne_rng hj (by decide))).trans (hm1 j hj))
    refine lv_aload_n hx hb d_MO_reckon_51 rfl (lv_at hl 2 rfl) ?_
    refine lv_iload_n hx hb d_MO_reckon_52 rfl (lv_at hl 3 rfl) ?_
    refine lv_iload hx hb d_MO_reckon_53 (lv_at hl 0 rfl) ?_
    refine lv_lload_n hx hb d_MO_reckon_55 rfl (lv_at hl 4 rfl) ?_
    refine lv_lload hx hb d_MO_reckon_56 (lv_at hl 5 rfl) ?_
    refine f_calli hI (f_runV C hI (c_MO_holds l G h_16 _ x nf lot 0 day on fl fk fd fw fv mf_15 g_x hFc bl31 (by decide) bd31 bo31) gm_MO_holds w_1028 p_MO_holds w_1026 g_x rfl rfl rfl hl.1 rfl (Nat.le_of_ble_eq_true rfl) ⟨Nat.le_of_ble_eq_true rfl, Nat.le_of_ble_eq_true rfl⟩ d_MO_reckon_58 ⟨Nat.le_of_ble_eq_true rfl, Nat.le_of_ble_eq_true rfl⟩) (fun r_17 h8 H9 locs hp9 hX9 hz9 hI => ?_)
    obtain ⟨rfl, e9⟩ := hp9
    rw [e9] at hI
    clear hX9 e9
    rcases hk_ix (fl := fl) (fk := fk) (fd := fd) (fw := fw) (lot := lot) (kind := 0) (day := day) (on := on) nf with ek0 | ⟨i0, hi0, ek0, hh0⟩
    · rw [ek0, bI_0]
      have hK0 : (mK nf fl fk fd fw fv lot day on) 0 = none := by show kv fv (hk fl fk fd fw lot 0 day on nf) = _; rw [ek0]; rfl
      refine lv_iconst (v := (-1)) hx hb d_MO_reckon_61 (by decide) ?_
      refine lv_icmp_ne (tgt := 67) hx hb d_MO_reckon_62 (by decide) (fun c_18 => absurd rfl c_18) (fun c_18 => ?_)
      refine lv_iconst (v := 0) hx hb d_MO_reckon_65 (by decide) ?_
      have hrk : rk (mK nf fl fk fd fw fv lot day on) (mE ne ef rr rm day) = (0, d0) := by rw [hed]; show rkE _ _ _ = _; unfold rkE; simp only [hK0]
      exact f_zret C hr rfl hI ⟨by rw [hrk]; rfl, mf_15, g_x, hm1, by rw [hrk]; exact ⟨sl, sr, sc, ⟨a15, a16, a17, ⟨v_14, v_15, v_16, v_17, v_18, v_19, v_20⟩, ⟨g_a15, g_a16, g_a17⟩⟩, fun i q hi => by simp [d0] at hi⟩, hF⟩ hX (Nat.le_refl _) (Nat.le_refl _) d_MO_reckon_66
    · rw [ek0, bI_k (by omega)]
      have hK0 : (mK nf fl fk fd fw fv lot day on) 0 = some (fv i0) := by show kv fv (hk fl fk fd fw lot 0 day on nf) = _; rw [ek0]; exact kv_k (by omega)
      have bi0 : i0 < 300 := by omega
      refine lv_iconst (v := (-1)) hx hb d_MO_reckon_61 (by decide) ?_
      refine lv_icmp_ne (tgt := 67) hx hb d_MO_reckon_62 (by decide) (fun c_19 => ?_) (fun c_19 => absurd c_19 (n_m1 (by omega)))
      refine lv_iinc (v := 1) (lv' := [(7, .int 1), (6, .int (nI e1)), (0, .ref x), (1, .int (nI lot)), (2, .long (lN day)), (4, .long (lN on))]) hx hb d_MO_reckon_67 hl (k := 0) rfl (by decide) (by decide) rfl (fun ls hl => ?_)
      refine lv_goto (tgt := 39) hx hb d_MO_reckon_70 (by decide) ?_
      refine lv_iload hx hb d_MO_reckon_39 (lv_at hl 0 rfl) ?_
      refine lv_iconst (v := 3) hx hb d_MO_reckon_41 (by decide) ?_
      refine lv_icmp_ge (tgt := 73) hx hb d_MO_reckon_42 (by decide) (fun c_20 => absurd c_20 (by decide)) (fun c_20 => ?_)
      refine lv_aload_n hx hb d_MO_reckon_45 rfl (lv_at hl 2 rfl) ?_
      refine lv_iload hx hb d_MO_reckon_46 (lv_at hl 0 rfl) ?_
      refine f_put (C := "DutyRulesModel") (T := T_MO) (N := 40) (fs' := mo (va_up mf_15 14 (.int 1))) (v := .int 1) hx hb (fun w q => hT w (s_MO w q)) t_MO k_MO n_MO hown hK hI g_x (by decide) rfl 14 (by decide) (hT _ w_823) (fun _ q => q) rfl rfl rfl (by rw [mo_len]; decide) (mo_set _) d_MO_reckon_48 (fun H locs hI => ?_)
      generalize emf_21 : va_up mf_15 14 (.int 1) = mf_21 at hI
      have v_11 : mf_21 11 = .ref a11 := (congrFun emf_21 11).symm.trans ((va_up_ne _ _ (by decide)).trans v_11)
      have v_15 : mf_21 15 = .ref a15 := (congrFun emf_21 15).symm.trans ((va_up_ne _ _ (by decide)).trans v_15)
      have v_16 : mf_21 16 = .ref a16 := (congrFun emf_21 16).symm.trans ((va_up_ne _ _ (by decide)).trans v_16)
      have v_17 : mf_21 17 = .ref a17 := (congrFun emf_21 17).symm.trans ((va_up_ne _ _ (by decide)).trans v_17)
      have v_18 : mf_21 18 = .int 0 := (congrFun emf_21 18).symm.trans ((va_up_ne _ _ (by decide)).trans v_18)
      have v_19 : mf_21 19 = .long 0 := (congrFun emf_21 19).symm.trans ((va_up_ne _ _ (by decide)).trans v_19)
      have v_20 : mf_21 20 = .long 0 := (congrFun emf_21 20).symm.trans ((va_up_ne _ _ (by decide)).trans v_20)
      have v_14 : mf_21 14 = .int 1 := (congrFun emf_21 14).symm.trans (va_up_self _ _ _)
      generalize eh_22 : fU h_16 x (40, 0, .inr (8, mo mf_21)) = h_22 at hI
      have hX := hX.set (e := .inr (8, mo mf_21)) g_x (by decide); rw [eh_22] at hX
      have hF := hF.set (e := .inr (8, mo mf_21)) g_x (by decide); rw [eh_22] at hF
      have g_a15 : h_22 a15 = some (56, 0, .inl ((G.2.1 0), 5, .inl (fun i => nI (sl i)))) := (congrFun eh_22 a15).symm.trans (fU_keep g_a15 (f_neR g_a15 g_x (by decide)))
      have g_a16 : h_22 a16 = some (57, 0, .inl ((G.2.1 0), 5, .inl (fun i => nI (sr i)))) := (congrFun eh_22 a16).symm.trans (fU_keep g_a16 (f_neR g_a16 g_x (by decide)))
      have g_a17 : h_22 a17 = some (58, 0, .inl ((G.2.1 1), 5, .inr (.inl (fun i => lN (sc i))))) := (congrFun eh_22 a17).symm.trans (fU_keep g_a17 (f_neR g_a17 g_x (by decide)))
      have g_a11 : h_22 a11 = some (52, 0, .inl ((G.2.1 1), 300, .inr (.inl (fun i => lN (fv i))))) := (congrFun eh_22 a11).symm.trans (fU_keep g_a11 (f_neR g_a11 g_x (by decide)))
      have hW9 : fF (inR [40]) h_16 h_22 := by rw [← eh_22]; exact fF.rf.set g_x (by decide)
      have g_x : h_22 x = some (40, 0, .inr (8, mo mf_21)) := (congrFun eh_22 x).symm.trans (fU_self _ _ _)
      have hFc := mFc.keep (mf' := mf_21) hFc (fun j h1 h2 => (congrFun emf_21 j).symm.trans (va_up_ne _ _ (ne_out h1 h2 (by decide)))) hW9 (by decide)
      have hEd := mEd.keep (mf' := mf_21) hEd (fun j h1 h2 => (congrFun emf_21 j).symm.trans (va_up_ne _ _ (ne_out h1 h2 (by decide)))) hW9 (by decide)
      have hm1 : ∀ j, j < 14 ∨ 20 < j → mf_21 j = mf j := fun j hj => (congrFun emf_21 j).symm.trans ((va_up_ne _ _ (ne_rng hj (by decide))).trans (hm1 j hj))
      refine lv_aload_n hx hb d_MO_reckon_51 rfl (lv_at hl 2 rfl) ?_
      refine lv_iload_n hx hb d_MO_reckon_52 rfl (lv_at hl 3 rfl) ?_
      refine lv_iload hx hb d_MO_reckon_53 (lv_at hl 0 rfl) ?_
      refine lv_lload_n hx hb d_MO_reckon_55 rfl (lv_at hl 4 rfl) ?_
      refine lv_lload hx hb d_MO_reckon_56 (lv_at hl 5 rfl) ?_
      refine f_calli hI (f_runV C hI (c_MO_holds l G h_22 _ x nf lot 1 day on fl fk fd fw fv mf_21 g_x hFc bl31 (by decide) bd31 bo31) gm_MO_holds w_1028 p_MO_holds w_1026 g_x rfl rfl rfl hl.1 rfl (Nat.le_of_ble_eq_true rfl) ⟨Nat.le_of_ble_eq_true rfl, Nat.le_of_ble_eq_true rfl⟩ d_MO_reckon_58 ⟨Nat.le_of_ble_eq_true rfl, Nat.le_of_ble_eq_true rfl⟩) (fun r_23 h8 H9 locs hp9 hX9 hz9 hI => ?_)
      obtain ⟨rfl, e9⟩ := hp9
      rw [e9] at hI
      clear hX9 e9
      rcases hk_ix (fl := fl) (fk := fk) (fd := fd) (fw := fw) (lot := lot) (kind := 1) (day := day) (on := on) nf with ek1 | ⟨i1, hi1, ek1, hh1⟩
      · rw [ek1, bI_0]
        have hK1 : (mK nf fl fk fd fw fv lot day on) 1 = none := by show kv fv (hk fl fk fd fw lot 1 day on nf) = _; rw [ek1]; rfl
        refine lv_iconst (v := (-1)) hx hb d_MO_reckon_61 (by decide) ?_
        refine lv_icmp_ne (tgt := 67) hx hb d_MO_reckon_62 (by decide) (fun c_24 => absurd rfl c_24) (fun c_24 => ?_)
        refine lv_iconst (v := 0) hx hb d_MO_reckon_65 (by decide) ?_
        have hrk : rk (mK nf fl fk fd fw fv lot day on) (mE ne ef rr rm day) = (1, d0) := by rw [hed]; show rkE _ _ _ = _; unfold rkE; simp only [hK0, hK1]
        exact f_zret C hr rfl hI ⟨by rw [hrk]; rfl, mf_21, g_x, hm1, by rw [hrk]; exact ⟨sl, sr, sc, ⟨a15, a16, a17, ⟨v_14, v_15, v_16, v_17, v_18, v_19, v_20⟩, ⟨g_a15, g_a16, g_a17⟩⟩, fun i q hi => by simp [d0] at hi⟩, hF⟩ hX (Nat.le_refl _) (Nat.le_refl _) d_MO_reckon_66
      · rw [ek1, bI_k (by omega)]
        have hK1 : (mK nf fl fk fd fw fv lot day on) 1 = some (fv i1) := by show kv fv (hk fl fk fd fw lot 1 day on nf) = _; rw [ek1]; exact kv_k (by omega)
        have bi1 : i1 < 300 := by omega
        refine lv_iconst (v := (-1)) hx hb d_MO_reckon_61 (by decide) ?_
        refine lv_icmp_ne (tgt := 67) hx hb d_MO_reckon_62 (by decide) (fun c_25 => ?_) (fun c_25 => absurd c_25 (n_m1 (by omega)))
        refine lv_iinc (v := 2) (lv' := [(7, .int 2), (6, .int (nI e1)), (0, .ref x), (1, .int (nI lot)), (2, .long (lN day)), (4, .long (lN on))]) hx hb d_MO_reckon_67 hl (k := 0) rfl (by decide) (by decide) rfl (fun ls hl => ?_)
        refine lv_goto (tgt := 39) hx hb d_MO_reckon_70 (by decide) ?_
        refine lv_iload hx hb d_MO_reckon_39 (lv_at hl 0 rfl) ?_
        refine lv_iconst (v := 3) hx hb d_MO_reckon_41 (by decide) ?_
        refine lv_icmp_ge (tgt := 73) hx hb d_MO_reckon_42 (by decide) (fun c_26 => absurd c_26 (by decide)) (fun c_26 => ?_)
        refine lv_aload_n hx hb d_MO_reckon_45 rfl (lv_at hl 2 rfl) ?_
        refine lv_iload hx hb d_MO_reckon_46 (lv_at hl 0 rfl) ?_
        refine f_put (C := "DutyRulesModel") (T := T_MO) (N := 40) (fs' := mo (va_up mf_21 14 (.int 2))) (v := .int 2) hx hb (fun w q => hT w (s_MO w q)) t_MO k_MO n_MO hown hK hI g_x (by decide) rfl 14 (by decide) (hT _ w_823) (fun _ q => q) rfl rfl rfl (by rw [mo_len]; decide) (mo_set _) d_MO_reckon_48 (fun H locs hI => ?_)
        generalize emf_27 : va_up mf_21 14 (.int 2) = mf_27 at hI
        have v_11 : mf_27 11 = .ref a11 := (congrFun emf_27 11).symm.trans ((va_up_ne _ _ (by decide)).trans v_11)
        have v_15 : mf_27 15 = .ref a15 := (congrFun emf_27 15).symm.trans ((va_up_ne _ _ (by decide)).trans v_15)
        have v_16 : mf_27 16 = .ref a16 := (congrFun emf_27 16).symm.trans ((va_up_ne _ _ (by decide)).trans v_16)
        have v_17 : mf_27 17 = .ref a17 := (congrFun emf_27 17).symm.trans ((va_up_ne _ _ (by decide)).trans v_17)
        have v_18 : mf_27 18 = .int 0 := (congrFun emf_27 18).symm.trans ((va_up_ne _ _ (by decide)).trans v_18)
        have v_19 : mf_27 19 = .long 0 := (congrFun emf_27 19).symm.trans ((va_up_ne _ _ (by decide)).trans v_19)
        have v_20 : mf_27 20 = .long 0 := (congrFun emf_27 20).symm.trans ((va_up_ne _ _ (by decide)).trans v_20)
        have v_14 : mf_27 14 = .int 2 := (congrFun emf_27 14).symm.trans (va_up_self _ _ _)
        generalize eh_28 : fU h_22 x (40, 0, .inr (8, mo mf_27)) = h_28 at hI
        have hX := hX.set (e := .inr (8, mo mf_27)) g_x (by decide); rw [eh_28] at hX
        have hF := hF.set (e := .inr (8, mo mf_27)) g_x (by decide); rw [eh_28] at hF
        have g_a15 : h_28 a15 = some (56, 0, .inl ((G.2.1 0), 5, .inl (fun i => nI (sl i)))) := (congrFun eh_28 a15).symm.trans (fU_keep g_a15 (f_neR g_a15 g_x (by decide)))
        have g_a16 : h_28 a16 = some (57, 0, .inl ((G.2.1 0), 5, .inl (fun i => nI (sr i)))) := (congrFun eh_28 a16).symm.trans (fU_keep g_a16 (f_neR g_a16 g_x (by decide)))
        have g_a17 : h_28 a17 = some (58, 0, .inl ((G.2.1 1), 5, .inr (.inl (fun i => lN (sc i))))) := (congrFun eh_28 a17).symm.trans (fU_keep g_a17 (f_neR g_a17 g_x (by decide)))
        have g_a11 : h_28 a11 = some (52, 0, .inl ((G.2.1 1), 300, .inr (.inl (fun i => lN (fv i))))) := (congrFun eh_28 a11).symm.trans (fU_keep g_a11 (f_neR g_a11 g_x (by decide)))
        have hW9 : fF (inR [40]) h_22 h_28 := by rw [← eh_28]; exact fF.rf.set g_x (by decide)
        have g_x : h_28 x = some (40, 0, .inr (8, mo mf_27)) := (congrFun eh_28 x).symm.trans (fU_self _ _ _)
        have hFc := mFc.keep (mf' := mf_27) hFc (fun j h1 h2 => (congrFun emf_27 j).symm.trans (va_up_ne _ _ (ne_out h1 h2 (by decide)))) hW9 (by decide)
        have hEd := mEd.keep (mf' := mf_27) hEd (fun j h1 h2 => (congrFun emf_27 j).symm.trans (va_up_ne _ _ (ne_out h1 h2 (by decide)))) hW9 (by decide)
        have hm1 : ∀ j, j < 14 ∨ 20 < j → mf_27 j = mf j := fun j hj => (congrFun emf_27 j).symm.trans ((va_up_ne _ _ (ne_rng hj (by decide))).trans (hm1 j hj))
        refine lv_aload_n hx hb d_MO_reckon_51 rfl (lv_at hl 2 rfl) ?_
        refine lv_iload_n hx hb d_MO_reckon_52 rfl (lv_at hl 3 rfl) ?_
        refine lv_iload hx hb d_MO_reckon_53 (lv_at hl 0 rfl) ?_
        refine lv_lload_n hx hb d_MO_reckon_55 rfl (lv_at hl 4 rfl) ?_
        refine lv_lload hx hb d_MO_reckon_56 (lv_at hl 5 rfl) ?_
        refine f_calli hI (f_runV C hI (c_MO_holds l G h_28 _ x nf lot 2 day on fl fk fd fw fv mf_27 g_x hFc bl31 (by decide) bd31 bo31) gm_MO_holds w_1028 p_MO_holds w_1026 g_x rfl rfl rfl hl.1 rfl (Nat.le_of_ble_eq_true rfl) ⟨Nat.le_of_ble_eq_true rfl, Nat.le_of_ble_eq_true rfl⟩ d_MO_reckon_58 ⟨Nat.le_of_ble_eq_true rfl, Nat.le_of_ble_eq_true rfl⟩) (fun r_29 h8 H9 locs hp9 hX9 hz9 hI => ?_)
        obtain ⟨rfl, e9⟩ := hp9
        rw [e9] at hI
        clear hX9 e9
        rcases hk_ix (fl := fl) (fk := fk) (fd := fd) (fw := fw) (lot := lot) (kind := 2) (day := day) (on := on) nf with ek2 | ⟨i2, hi2, ek2, hh2⟩
        · rw [ek2, bI_0]
          have hK2 : (mK nf fl fk fd fw fv lot day on) 2 = none := by show kv fv (hk fl fk fd fw lot 2 day on nf) = _; rw [ek2]; rfl
          refine lv_iconst (v := (-1)) hx hb d_MO_reckon_61 (by decide) ?_
          refine lv_icmp_ne (tgt := 67) hx hb d_MO_reckon_62 (by decide) (fun c_30 => absurd rfl c_30) (fun c_30 => ?_)
          refine lv_iconst (v := 0) hx hb d_MO_reckon_65 (by decide) ?_
          have hrk : rk (mK nf fl fk fd fw fv lot day on) (mE ne ef rr rm day) = (2, d0) := by rw [hed]; show rkE _ _ _ = _; unfold rkE; simp only [hK0, hK1, hK2]
          exact f_zret C hr rfl hI ⟨by rw [hrk]; rfl, mf_27, g_x, hm1, by rw [hrk]; exact ⟨sl, sr, sc, ⟨a15, a16, a17, ⟨v_14, v_15, v_16, v_17, v_18, v_19, v_20⟩, ⟨g_a15, g_a16, g_a17⟩⟩, fun i q hi => by simp [d0] at hi⟩, hF⟩ hX (Nat.le_refl _) (Nat.le_refl _) d_MO_reckon_66
        · rw [ek2, bI_k (by omega)]
          have hK2 : (mK nf fl fk fd fw fv lot day on) 2 = some (fv i2) := by show kv fv (hk fl fk fd fw lot 2 day on nf) = _; rw [ek2]; exact kv_k (by omega)
          have bi2 : i2 < 300 := by omega
          refine lv_iconst (v := (-1)) hx hb d_MO_reckon_61 (by decide) ?_
          refine lv_icmp_ne (tgt := 67) hx hb d_MO_reckon_62 (by decide) (fun c_31 => ?_) (fun c_31 => absurd c_31 (n_m1 (by omega)))
          refine lv_iinc (v := 3) (lv' := [(7, .int 3), (6, .int (nI e1)), (0, .ref x), (1, .int (nI lot)), (2, .long (lN day)), (4, .long (lN on))]) hx hb d_MO_reckon_67 hl (k := 0) rfl (by decide) (by decide) rfl (fun ls hl => ?_)
          refine lv_goto (tgt := 39) hx hb d_MO_reckon_70 (by decide) ?_
          refine lv_iload hx hb d_MO_reckon_39 (lv_at hl 0 rfl) ?_
          refine lv_iconst (v := 3) hx hb d_MO_reckon_41 (by decide) ?_
          refine lv_icmp_ge (tgt := 73) hx hb d_MO_reckon_42 (by decide) (fun c_32 => ?_) (fun c_32 => absurd (by decide) c_32)
          refine lv_aload_n hx hb d_MO_reckon_73 rfl (lv_at hl 2 rfl) ?_
          refine f_get (C := "DutyRulesModel") (T := T_MO) (N := 40) hx hb (fun w q => hT w (s_MO w q)) hown hK hI g_x rfl 11 (by decide) (hT _ w_820) (fun _ q => q) (mo_get (by decide) v_11) d_MO_reckon_74 ?_
          refine lv_aload_n hx hb d_MO_reckon_77 rfl (lv_at hl 2 rfl) ?_
          refine lv_iload_n hx hb d_MO_reckon_78 rfl (lv_at hl 3 rfl) ?_
          refine lv_iconst (v := 0) hx hb d_MO_reckon_79 (by decide) ?_
          refine lv_lload_n hx hb d_MO_reckon_80 rfl (lv_at hl 4 rfl) ?_
          refine lv_lload hx hb d_MO_reckon_81 (lv_at hl 5 rfl) ?_
          refine f_calli hI (f_runV C hI (c_MO_holds l G h_28 _ x nf lot 0 day on fl fk fd fw fv mf_27 g_x hFc bl31 (by decide) bd31 bo31) gm_MO_holds w_1028 p_MO_holds w_1026 g_x rfl rfl rfl hl.1 rfl (Nat.le_of_ble_eq_true rfl) ⟨Nat.le_of_ble_eq_true rfl, Nat.le_of_ble_eq_true rfl⟩ d_MO_reckon_83 ⟨Nat.le_of_ble_eq_true rfl, Nat.le_of_ble_eq_true rfl⟩) (fun r_33 h8 H9 locs hp9 hX9 hz9 hI => ?_)
          obtain ⟨rfl, e9⟩ := hp9
          rw [e9] at hI
          clear hX9 e9
          rw [ek0, bI_k (by omega)]
          refine f_laldn (k := i0) (v := (lN (fv i0))) hx hb hI g_a11 (fT.ofK hK (t0 := 1) rfl) bi0 (by omega) rfl d_MO_reckon_86 ?_
          refine lv_lstore (lv' := [(7, .long (lN (fv i0))), (6, .int (nI e1)), (0, .ref x), (1, .int (nI lot)), (2, .long (lN day)), (4, .long (lN on))]) hx hb d_MO_reckon_87 hl (by decide) rfl (fun ls hl => ?_)
          refine lv_aload_n hx hb d_MO_reckon_89 rfl (lv_at hl 2 rfl) ?_
          refine f_get (C := "DutyRulesModel") (T := T_MO) (N := 40) hx hb (fun w q => hT w (s_MO w q)) hown hK hI g_x rfl 11 (by decide) (hT _ w_820) (fun _ q => q) (mo_get (by decide) v_11) d_MO_reckon_90 ?_
          refine lv_aload_n hx hb d_MO_reckon_93 rfl (lv_at hl 2 rfl) ?_
          refine lv_iload_n hx hb d_MO_reckon_94 rfl (lv_at hl 3 rfl) ?_
          refine lv_iconst (v := 1) hx hb d_MO_reckon_95 (by decide) ?_
          refine lv_lload_n hx hb d_MO_reckon_96 rfl (lv_at hl 4 rfl) ?_
          refine lv_lload hx hb d_MO_reckon_97 (lv_at hl 5 rfl) ?_
          refine f_calli hI (f_runV C hI (c_MO_holds l G h_28 _ x nf lot 1 day on fl fk fd fw fv mf_27 g_x hFc bl31 (by decide) bd31 bo31) gm_MO_holds w_1028 p_MO_holds w_1026 g_x rfl rfl rfl hl.1 rfl (Nat.le_of_ble_eq_true rfl) ⟨Nat.le_of_ble_eq_true rfl, Nat.le_of_ble_eq_true rfl⟩ d_MO_reckon_99 ⟨Nat.le_of_ble_eq_true rfl, Nat.le_of_ble_eq_true rfl⟩) (fun r_34 h8 H9 locs hp9 hX9 hz9 hI => ?_)
          obtain ⟨rfl, e9⟩ := hp9
          rw [e9] at hI
          clear hX9 e9
          rw [ek1, bI_k (by omega)]
          refine f_laldn (k := i1) (v := (lN (fv i1))) hx hb hI g_a11 (fT.ofK hK (t0 := 1) rfl) bi1 (by omega) rfl d_MO_reckon_102 ?_
          refine lv_lstore (lv' := [(9, .long (lN (fv i1))), (7, .long (lN (fv i0))), (6, .int (nI e1)), (0, .ref x), (1, .int (nI lot)), (2, .long (lN day)), (4, .long (lN on))]) hx hb d_MO_reckon_103 hl (by decide) rfl (fun ls hl => ?_)
          refine lv_aload_n hx hb d_MO_reckon_105 rfl (lv_at hl 3 rfl) ?_
          refine f_get (C := "DutyRulesModel") (T := T_MO) (N := 40) hx hb (fun w q => hT w (s_MO w q)) hown hK hI g_x rfl 11 (by decide) (hT _ w_820) (fun _ q => q) (mo_get (by decide) v_11) d_MO_reckon_106 ?_
          refine lv_aload_n hx hb d_MO_reckon_109 rfl (lv_at hl 3 rfl) ?_
          refine lv_iload_n hx hb d_MO_reckon_110 rfl (lv_at hl 4 rfl) ?_
          refine lv_iconst (v := 2) hx hb d_MO_reckon_111 (by decide) ?_
          refine lv_lload_n hx hb d_MO_reckon_112 rfl (lv_at hl 5 rfl) ?_
          refine lv_lload hx hb d_MO_reckon_113 (lv_at hl 6 rfl) ?_
          refine f_calli hI (f_runV C hI (c_MO_holds l G h_28 _ x nf lot 2 day on fl fk fd fw fv mf_27 g_x hFc bl31 (by decide) bd31 bo31) gm_MO_holds w_1028 p_MO_holds w_1026 g_x rfl rfl rfl hl.1 rfl (Nat.le_of_ble_eq_true rfl) ⟨Nat.le_of_ble_eq_true rfl, Nat.le_of_ble_eq_true rfl⟩ d_MO_reckon_115 ⟨Nat.le_of_ble_eq_true rfl, Nat.le_of_ble_eq_true rfl⟩) (fun r_35 h8 H9 locs hp9 hX9 hz9 hI => ?_)
          obtain ⟨rfl, e9⟩ := hp9
          rw [e9] at hI
          clear hX9 e9
          rw [ek2, bI_k (by omega)]
          refine f_laldn (k := i2) (v := (lN (fv i2))) hx hb hI g_a11 (fT.ofK hK (t0 := 1) rfl) bi2 (by omega) rfl d_MO_reckon_118 ?_
          have hg0 : fv i0 ≤ 9 := by have := bfv0 i0; rw [hh0.2.1] at this; exact this
          have hg1 : fv i1 ≤ 10000 := by have := bfv0 i1; rw [hh1.2.1] at this; exact this
          have hg2 : fv i2 ≤ 1000000 := by have := bfv0 i2; rw [hh2.2.1] at this; exact this
          refine lv_lstore (lv' := [(11, .long (lN (fv i2))), (9, .long (lN (fv i1))), (7, .long (lN (fv i0))), (6, .int (nI e1)), (0, .ref x), (1, .int (nI lot)), (2, .long (lN day)), (4, .long (lN on))]) hx hb d_MO_reckon_119 hl (by decide) rfl (fun ls hl => ?_)
          refine lv_aload_n hx hb d_MO_reckon_121 rfl (lv_at hl 4 rfl) ?_
          refine lv_iload hx hb d_MO_reckon_122 (lv_at hl 3 rfl) ?_
          refine lv_iconst (v := 0) hx hb d_MO_reckon_124 (by decide) ?_
          refine lv_lload hx hb d_MO_reckon_125 (lv_at hl 2 rfl) ?_
          refine lv_lload hx hb d_MO_reckon_127 (lv_at hl 1 rfl) ?_
          refine f_calli hI (f_runV C hI (c_MO_find l G h_28 _ x e1 0 (fv i0) (fv i1) mf_27 g_x ne ef rr rm hEd (by omega) (by omega) (by omega) (by omega)) gm_MO_find w_1032 p_MO_find w_1030 g_x rfl rfl rfl hl.1 rfl (Nat.le_of_ble_eq_true rfl) ⟨Nat.le_of_ble_eq_true rfl, Nat.le_of_ble_eq_true rfl⟩ d_MO_reckon_129 ⟨Nat.le_of_ble_eq_true rfl, Nat.le_of_ble_eq_true rfl⟩) (fun r_36 h8 H9 locs hp9 hX9 hz9 hI => ?_)
          obtain ⟨rfl, e9⟩ := hp9
          rw [e9] at hI
          clear hX9 e9
          rcases eR : ff (fp rr e1 0 (fv i0) (fv i1)) 0 (rm e1) with _ | rate
          · skip
            refine lv_istore (lv' := [(13, .int (-1)), (11, .long (lN (fv i2))), (9, .long (lN (fv i1))), (7, .long (lN (fv i0))), (6, .int (nI e1)), (0, .ref x), (1, .int (nI lot)), (2, .long (lN day)), (4, .long (lN on))]) hx hb d_MO_reckon_132 hl (by decide) rfl (fun ls hl => ?_)
            refine lv_aload_n hx hb d_MO_reckon_134 rfl (lv_at hl 5 rfl) ?_
            refine lv_iload hx hb d_MO_reckon_135 (lv_at hl 4 rfl) ?_
            refine lv_iconst (v := 1) hx hb d_MO_reckon_137 (by decide) ?_
            refine lv_lload hx hb d_MO_reckon_138 (lv_at hl 3 rfl) ?_
            refine lv_lconst (v := 0) hx hb d_MO_reckon_140 (by decide) ?_
            refine f_calli hI (f_runV C hI (c_MO_find l G h_28 _ x e1 1 (fv i0) 0 mf_27 g_x ne ef rr rm hEd (by omega) (by omega) (by omega) (by omega)) gm_MO_find w_1032 p_MO_find w_1030 g_x rfl rfl rfl hl.1 rfl (Nat.le_of_ble_eq_true rfl) ⟨Nat.le_of_ble_eq_true rfl, Nat.le_of_ble_eq_true rfl⟩ d_MO_reckon_141 ⟨Nat.le_of_ble_eq_true rfl, Nat.le_of_ble_eq_true rfl⟩) (fun r_37 h8 H9 locs hp9 hX9 hz9 hI => ?_)
            obtain ⟨rfl, e9⟩ := hp9
            rw [e9] at hI
            clear hX9 e9
            rcases eS : ff (fp rr e1 1 (fv i0) 0) 0 (rm e1) with _ | r
            · skip
              refine lv_istore (lv' := [(14, .int (-1)), (13, .int (-1)), (11, .long (lN (fv i2))), (9, .long (lN (fv i1))), (7, .long (lN (fv i0))), (6, .int (nI e1)), (0, .ref x), (1, .int (nI lot)), (2, .long (lN day)), (4, .long (lN on))]) hx hb d_MO_reckon_144 hl (by decide) rfl (fun ls hl => ?_)
              refine lv_aload_n hx hb d_MO_reckon_146 rfl (lv_at hl 6 rfl) ?_
              refine lv_iload_n hx hb d_MO_reckon_147 rfl (lv_at hl 7 rfl) ?_
              refine lv_iconst (v := 3) hx hb d_MO_reckon_148 (by decide) ?_
              refine lv_lload_n hx hb d_MO_reckon_149 rfl (lv_at hl 8 rfl) ?_
              refine lv_lload hx hb d_MO_reckon_150 (lv_at hl 9 rfl) ?_
              refine f_calli hI (f_runV C hI (c_MO_holds l G h_28 _ x nf lot 3 day on fl fk fd fw fv mf_27 g_x hFc bl31 (by decide) bd31 bo31) gm_MO_holds w_1028 p_MO_holds w_1026 g_x rfl rfl rfl hl.1 rfl (Nat.le_of_ble_eq_true rfl) ⟨Nat.le_of_ble_eq_true rfl, Nat.le_of_ble_eq_true rfl⟩ d_MO_reckon_152 ⟨Nat.le_of_ble_eq_true rfl, Nat.le_of_ble_eq_true rfl⟩) (fun r_38 h8 H9 locs hp9 hX9 hz9 hI => ?_)
              obtain ⟨rfl, e9⟩ := hp9
              rw [e9] at hI
              clear hX9 e9
              rcases hk_ix (fl := fl) (fk := fk) (fd := fd) (fw := fw) (lot := lot) (kind := 3) (day := day) (on := on) nf with ek3 | ⟨i3, hi3, ek3, hh3⟩
              · rw [ek3, bI_0]
                have hK3 : (mK nf fl fk fd fw fv lot day on) 3 = none := by show kv fv (hk fl fk fd fw lot 3 day on nf) = _; rw [ek3]; rfl
                refine lv_istore (lv' := [(15, .int (-1)), (14, .int (-1)), (13, .int (-1)), (11, .long (lN (fv i2))), (9, .long (lN (fv i1))), (7, .long (lN (fv i0))), (6, .int (nI e1)), (0, .ref x), (1, .int (nI lot)), (2, .long (lN day)), (4, .long (lN on))]) hx hb d_MO_reckon_155 hl (by decide) rfl (fun ls hl => ?_)
                refine lv_aload_n hx hb d_MO_reckon_157 rfl (lv_at hl 7 rfl) ?_
                refine lv_iload hx hb d_MO_reckon_158 (lv_at hl 2 rfl) ?_
                refine lv_iconst (v := (-1)) hx hb d_MO_reckon_160 (by decide) ?_
                refine lv_icmp_ne (tgt := 169) hx hb d_MO_reckon_161 (by decide) (fun c_39 => absurd rfl c_39) (fun c_39 => ?_)
                refine lv_bipush (v := 21) hx hb d_MO_reckon_164 (by decide) ?_
                refine lv_goto (tgt := 170) hx hb d_MO_reckon_166 (by decide) ?_
                refine f_put (C := "DutyRulesModel") (T := T_MO) (N := 40) (fs' := mo (va_up mf_27 14 (.int 21))) (v := .int 21) hx hb (fun w q => hT w (s_MO w q)) t_MO k_MO n_MO hown hK hI g_x (by decide) rfl 14 (by decide) (hT _ w_823) (fun _ q => q) rfl rfl rfl (by rw [mo_len]; decide) (mo_set _) d_MO_reckon_170 (fun H locs hI => ?_)
                generalize emf_40 : va_up mf_27 14 (.int 21) = mf_40 at hI
                have v_11 : mf_40 11 = .ref a11 := (congrFun emf_40 11).symm.trans ((va_up_ne _ _ (by decide)).trans v_11)
                have v_15 : mf_40 15 = .ref a15 := (congrFun emf_40 15).symm.trans ((va_up_ne _ _ (by decide)).trans v_15)
                have v_16 : mf_40 16 = .ref a16 := (congrFun emf_40 16).symm.trans ((va_up_ne _ _ (by decide)).trans v_16)
                have v_17 : mf_40 17 = .ref a17 := (congrFun emf_40 17).symm.trans ((va_up_ne _ _ (by decide)).trans v_17)
                have v_18 : mf_40 18 = .int 0 := (congrFun emf_40 18).symm.trans ((va_up_ne _ _ (by decide)).trans v_18)
                have v_19 : mf_40 19 = .long 0 := (congrFun emf_40 19).symm.trans ((va_up_ne _ _ (by decide)).trans v_19)
                have v_20 : mf_40 20 = .long 0 := (congrFun emf_40 20).symm.trans ((va_up_ne _ _ (by decide)).trans v_20)
                have v_14 : mf_40 14 = .int 21 := (congrFun emf_40 14).symm.trans (va_up_self _ _ _)
                generalize eh_41 : fU h_28 x (40, 0, .inr (8, mo mf_40)) = h_41 at hI
                have hX := hX.set (e := .inr (8, mo mf_40)) g_x (by decide); rw [eh_41] at hX
                have hF := hF.set (e := .inr (8, mo mf_40)) g_x (by decide); rw [eh_41] at hF
                have g_a15 : h_41 a15 = some (56, 0, .inl ((G.2.1 0), 5, .inl (fun i => nI (sl i)))) := (congrFun eh_41 a15).symm.trans (fU_keep g_a15 (f_neR g_a15 g_x (by decide)))
                have g_a16 : h_41 a16 = some (57, 0, .inl ((G.2.1 0), 5, .inl (fun i => nI (sr i)))) := (congrFun eh_41 a16).symm.trans (fU_keep g_a16 (f_neR g_a16 g_x (by decide)))
                have g_a17 : h_41 a17 = some (58, 0, .inl ((G.2.1 1), 5, .inr (.inl (fun i => lN (sc i))))) := (congrFun eh_41 a17).symm.trans (fU_keep g_a17 (f_neR g_a17 g_x (by decide)))
                have g_a11 : h_41 a11 = some (52, 0, .inl ((G.2.1 1), 300, .inr (.inl (fun i => lN (fv i))))) := (congrFun eh_41 a11).symm.trans (fU_keep g_a11 (f_neR g_a11 g_x (by decide)))
                have hW9 : fF (inR [40]) h_28 h_41 := by rw [← eh_41]; exact fF.rf.set g_x (by decide)
                have g_x : h_41 x = some (40, 0, .inr (8, mo mf_40)) := (congrFun eh_41 x).symm.trans (fU_self _ _ _)
                have hFc := mFc.keep (mf' := mf_40) hFc (fun j h1 h2 => (congrFun emf_40 j).symm.trans (va_up_ne _ _ (ne_out h1 h2 (by decide)))) hW9 (by decide)
                have hEd := mEd.keep (mf' := mf_40) hEd (fun j h1 h2 => (congrFun emf_40 j).symm.trans (va_up_ne _ _ (ne_out h1 h2 (by decide)))) hW9 (by decide)
                have hm1 : ∀ j, j < 14 ∨ 20 < j → mf_40 j = mf j := fun j hj => (congrFun emf_40 j).symm.trans ((va_up_ne _ _ (ne_rng hj (by decide))).trans (hm1 j hj))
                refine lv_iload hx hb d_MO_reckon_173 (lv_at hl 2 rfl) ?_
                refine lv_iconst (v := (-1)) hx hb d_MO_reckon_175 (by decide) ?_
                refine lv_icmp_eq (tgt := 191) hx hb d_MO_reckon_176 (by decide) (fun c_42 => ?_) (fun c_42 => absurd rfl c_42)
                refine lv_iconst (v := 0) hx hb d_MO_reckon_191 (by decide) ?_
                have hrk : rk (mK nf fl fk fd fw fv lot day on) (mE ne ef rr rm day) = (21, d0) := by rw [hed]; show rkE _ _ _ = _; unfold rkE; simp only [hK0, hK1, hK2]; rw [show mF rr rm e1 0 (fv i0) (fv i1) = none from eR]
                exact f_zret C hr rfl hI ⟨by rw [hrk]; rfl, mf_40, g_x, hm1, by rw [hrk]; exact ⟨sl, sr, sc, ⟨a15, a16, a17, ⟨v_14, v_15, v_16, v_17, v_18, v_19, v_20⟩, ⟨g_a15, g_a16, g_a17⟩⟩, fun i q hi => by simp [d0] at hi⟩, hF⟩ hX (Nat.le_refl _) (Nat.le_refl _) d_MO_reckon_192
              · rw [ek3, bI_k (by omega)]
                have hK3 : (mK nf fl fk fd fw fv lot day on) 3 = some (fv i3) := by show kv fv (hk fl fk fd fw lot 3 day on nf) = _; rw [ek3]; exact kv_k (by omega)
                have bi3 : i3 < 300 := by omega
                refine lv_istore (lv' := [(15, .int (nI i3)), (14, .int (-1)), (13, .int (-1)), (11, .long (lN (fv i2))), (9, .long (lN (fv i1))), (7, .long (lN (fv i0))), (6, .int (nI e1)), (0, .ref x), (1, .int (nI lot)), (2, .long (lN day)), (4, .long (lN on))]) hx hb d_MO_reckon_155 hl (by decide) rfl (fun ls hl => ?_)
                refine lv_aload_n hx hb d_MO_reckon_157 rfl (lv_at hl 7 rfl) ?_
                refine lv_iload hx hb d_MO_reckon_158 (lv_at hl 2 rfl) ?_
                refine lv_iconst (v := (-1)) hx hb d_MO_reckon_160 (by decide) ?_
                refine lv_icmp_ne (tgt := 169) hx hb d_MO_reckon_161 (by decide) (fun c_43 => absurd rfl c_43) (fun c_43 => ?_)
                refine lv_bipush (v := 21) hx hb d_MO_reckon_164 (by decide) ?_
                refine lv_goto (tgt := 170) hx hb d_MO_reckon_166 (by decide) ?_
                refine f_put (C := "DutyRulesModel") (T := T_MO) (N := 40) (fs' := mo (va_up mf_27 14 (.int 21))) (v := .int 21) hx hb (fun w q => hT w (s_MO w q)) t_MO k_MO n_MO hown hK hI g_x (by decide) rfl 14 (by decide) (hT _ w_823) (fun _ q => q) rfl rfl rfl (by rw [mo_len]; decide) (mo_set _) d_MO_reckon_170 (fun H locs hI => ?_)
                generalize emf_44 : va_up mf_27 14 (.int 21) = mf_44 at hI
                have v_11 : mf_44 11 = .ref a11 := (congrFun emf_44 11).symm.trans ((va_up_ne _ _ (by decide)).trans v_11)
                have v_15 : mf_44 15 = .ref a15 := (congrFun emf_44 15).symm.trans ((va_up_ne _ _ (by decide)).trans v_15)
                have v_16 : mf_44 16 = .ref a16 := (congrFun emf_44 16).symm.trans ((va_up_ne _ _ (by decide)).trans v_16)
                have v_17 : mf_44 17 = .ref a17 := (congrFun emf_44 17).symm.trans ((va_up_ne _ _ (by decide)).trans v_17)
                have v_18 : mf_44 18 = .int 0 := (congrFun emf_44 18).symm.trans ((va_up_ne _ _ (by decide)).trans v_18)
                have v_19 : mf_44 19 = .long 0 := (congrFun emf_44 19).symm.trans ((va_up_ne _ _ (by decide)).trans v_19)
                have v_20 : mf_44 20 = .long 0 := (congrFun emf_44 20).symm.trans ((va_up_ne _ _ (by decide)).trans v_20)
                have v_14 : mf_44 14 = .int 21 := (congrFun emf_44 14).symm.trans (va_up_self _ _ _)
                generalize eh_45 : fU h_28 x (40, 0, .inr (8, mo mf_44)) = h_45 at hI
                have hX := hX.set (e := .inr (8, mo mf_44)) g_x (by decide); rw [eh_45] at hX
                have hF := hF.set (e := .inr (8, mo mf_44)) g_x (by decide); rw [eh_45] at hF
                have g_a15 : h_45 a15 = some (56, 0, .inl ((G.2.1 0), 5, .inl (fun i => nI (sl i)))) := (congrFun eh_45 a15).symm.trans (fU_keep g_a15 (f_neR g_a15 g_x (by decide)))
                have g_a16 : h_45 a16 = some (57, 0, .inl ((G.2.1 0), 5, .inl (fun i => nI (sr i)))) := (congrFun eh_45 a16).symm.trans (fU_keep g_a16 (f_neR g_a16 g_x (by decide)))
                have g_a17 : h_45 a17 = some (58, 0, .inl ((G.2.1 1), 5, .inr (.inl (fun i => lN (sc i))))) := (congrFun eh_45 a17).symm.trans (fU_keep g_a17 (f_neR g_a17 g_x (by decide)))
                have g_a11 : h_45 a11 = some (52, 0, .inl ((G.2.1 1), 300, .inr (.inl (fun i => lN (fv i))))) := (congrFun eh_45 a11).symm.trans (fU_keep g_a11 (f_neR g_a11 g_x (by decide)))
                have hW9 : fF (inR [40]) h_28 h_45 := by rw [← eh_45]; exact fF.rf.set g_x (by decide)
                have g_x : h_45 x = some (40, 0, .inr (8, mo mf_44)) := (congrFun eh_45 x).symm.trans (fU_self _ _ _)
                have hFc := mFc.keep (mf' := mf_44) hFc (fun j h1 h2 => (congrFun emf_44 j).symm.trans (va_up_ne _ _ (ne_out h1 h2 (by decide)))) hW9 (by decide)
                have hEd := mEd.keep (mf' := mf_44) hEd (fun j h1 h2 => (congrFun emf_44 j).symm.trans (va_up_ne _ _ (ne_out h1 h2 (by decide)))) hW9 (by decide)
                have hm1 : ∀ j, j < 14 ∨ 20 < j → mf_44 j = mf j := fun j hj => (congrFun emf_44 j).symm.trans ((va_up_ne _ _ (ne_rng hj (by decide))).trans (hm1 j hj))
                refine lv_iload hx hb d_MO_reckon_173 (lv_at hl 2 rfl) ?_
                refine lv_iconst (v := (-1)) hx hb d_MO_reckon_175 (by decide) ?_
                refine lv_icmp_eq (tgt := 191) hx hb d_MO_reckon_176 (by decide) (fun c_46 => ?_) (fun c_46 => absurd rfl c_46)
                refine lv_iconst (v := 0) hx hb d_MO_reckon_191 (by decide) ?_
                have hrk : rk (mK nf fl fk fd fw fv lot day on) (mE ne ef rr rm day) = (21, d0) := by rw [hed]; show rkE _ _ _ = _; unfold rkE; simp only [hK0, hK1, hK2]; rw [show mF rr rm e1 0 (fv i0) (fv i1) = none from eR]
                exact f_zret C hr rfl hI ⟨by rw [hrk]; rfl, mf_44, g_x, hm1, by rw [hrk]; exact ⟨sl, sr, sc, ⟨a15, a16, a17, ⟨v_14, v_15, v_16, v_17, v_18, v_19, v_20⟩, ⟨g_a15, g_a16, g_a17⟩⟩, fun i q hi => by simp [d0] at hi⟩, hF⟩ hX (Nat.le_refl _) (Nat.le_refl _) d_MO_reckon_192
            · obtain ⟨-, r2, r3⟩ := ff_in eS
              have hrmS := brm e1
              refine lv_istore (lv' := [(14, .int (nI r)), (13, .int (-1)), (11, .long (lN (fv i2))), (9, .long (lN (fv i1))), (7, .long (lN (fv i0))), (6, .int (nI e1)), (0, .ref x), (1, .int (nI lot)), (2, .long (lN day)), (4, .long (lN on))]) hx hb d_MO_reckon_144 hl (by decide) rfl (fun ls hl => ?_)
              refine lv_aload_n hx hb d_MO_reckon_146 rfl (lv_at hl 6 rfl) ?_
              refine lv_iload_n hx hb d_MO_reckon_147 rfl (lv_at hl 7 rfl) ?_
              refine lv_iconst (v := 3) hx hb d_MO_reckon_148 (by decide) ?_
              refine lv_lload_n hx hb d_MO_reckon_149 rfl (lv_at hl 8 rfl) ?_
              refine lv_lload hx hb d_MO_reckon_150 (lv_at hl 9 rfl) ?_
              refine f_calli hI (f_runV C hI (c_MO_holds l G h_28 _ x nf lot 3 day on fl fk fd fw fv mf_27 g_x hFc bl31 (by decide) bd31 bo31) gm_MO_holds w_1028 p_MO_holds w_1026 g_x rfl rfl rfl hl.1 rfl (Nat.le_of_ble_eq_true rfl) ⟨Nat.le_of_ble_eq_true rfl, Nat.le_of_ble_eq_true rfl⟩ d_MO_reckon_152 ⟨Nat.le_of_ble_eq_true rfl, Nat.le_of_ble_eq_true rfl⟩) (fun r_47 h8 H9 locs hp9 hX9 hz9 hI => ?_)
              obtain ⟨rfl, e9⟩ := hp9
              rw [e9] at hI
              clear hX9 e9
              rcases hk_ix (fl := fl) (fk := fk) (fd := fd) (fw := fw) (lot := lot) (kind := 3) (day := day) (on := on) nf with ek3 | ⟨i3, hi3, ek3, hh3⟩
              · rw [ek3, bI_0]
                have hK3 : (mK nf fl fk fd fw fv lot day on) 3 = none := by show kv fv (hk fl fk fd fw lot 3 day on nf) = _; rw [ek3]; rfl
                refine lv_istore (lv' := [(15, .int (-1)), (14, .int (nI r)), (13, .int (-1)), (11, .long (lN (fv i2))), (9, .long (lN (fv i1))), (7, .long (lN (fv i0))), (6, .int (nI e1)), (0, .ref x), (1, .int (nI lot)), (2, .long (lN day)), (4, .long (lN on))]) hx hb d_MO_reckon_155 hl (by decide) rfl (fun ls hl => ?_)
                refine lv_aload_n hx hb d_MO_reckon_157 rfl (lv_at hl 7 rfl) ?_
                refine lv_iload hx hb d_MO_reckon_158 (lv_at hl 2 rfl) ?_
                refine lv_iconst (v := (-1)) hx hb d_MO_reckon_160 (by decide) ?_
                refine lv_icmp_ne (tgt := 169) hx hb d_MO_reckon_161 (by decide) (fun c_48 => absurd rfl c_48) (fun c_48 => ?_)
                refine lv_bipush (v := 21) hx hb d_MO_reckon_164 (by decide) ?_
                refine lv_goto (tgt := 170) hx hb d_MO_reckon_166 (by decide) ?_
                refine f_put (C := "DutyRulesModel") (T := T_MO) (N := 40) (fs' := mo (va_up mf_27 14 (.int 21))) (v := .int 21) hx hb (fun w q => hT w (s_MO w q)) t_MO k_MO n_MO hown hK hI g_x (by decide) rfl 14 (by decide) (hT _ w_823) (fun _ q => q) rfl rfl rfl (by rw [mo_len]; decide) (mo_set _) d_MO_reckon_170 (fun H locs hI => ?_)
                generalize emf_49 : va_up mf_27 14 (.int 21) = mf_49 at hI
                have v_11 : mf_49 11 = .ref a11 := (congrFun emf_49 11).symm.trans ((va_up_ne _ _ (by decide)).trans v_11)
                have v_15 : mf_49 15 = .ref a15 := (congrFun emf_49 15).symm.trans ((va_up_ne _ _ (by decide)).trans v_15)
                have v_16 : mf_49 16 = .ref a16 := (congrFun emf_49 16).symm.trans ((va_up_ne _ _ (by decide)).trans v_16)
                have v_17 : mf_49 17 = .ref a17 := (congrFun emf_49 17).symm.trans ((va_up_ne _ _ (by decide)).trans v_17)
                have v_18 : mf_49 18 = .int 0 := (congrFun emf_49 18).symm.trans ((va_up_ne _ _ (by decide)).trans v_18)
                have v_19 : mf_49 19 = .long 0 := (congrFun emf_49 19).symm.trans ((va_up_ne _ _ (by decide)).trans v_19)
                have v_20 : mf_49 20 = .long 0 := (congrFun emf_49 20).symm.trans ((va_up_ne _ _ (by decide)).trans v_20)
                have v_14 : mf_49 14 = .int 21 := (congrFun emf_49 14).symm.trans (va_up_self _ _ _)
                generalize eh_50 : fU h_28 x (40, 0, .inr (8, mo mf_49)) = h_50 at hI
                have hX := hX.set (e := .inr (8, mo mf_49)) g_x (by decide); rw [eh_50] at hX
                have hF := hF.set (e := .inr (8, mo mf_49)) g_x (by decide); rw [eh_50] at hF
                have g_a15 : h_50 a15 = some (56, 0, .inl ((G.2.1 0), 5, .inl (fun i => nI (sl i)))) := (congrFun eh_50 a15).symm.trans (fU_keep g_a15 (f_neR g_a15 g_x (by decide)))
                have g_a16 : h_50 a16 = some (57, 0, .inl ((G.2.1 0), 5, .inl (fun i => nI (sr i)))) := (congrFun eh_50 a16).symm.trans (fU_keep g_a16 (f_neR g_a16 g_x (by decide)))
                have g_a17 : h_50 a17 = some (58, 0, .inl ((G.2.1 1), 5, .inr (.inl (fun i => lN (sc i))))) := (congrFun eh_50 a17).symm.trans (fU_keep g_a17 (f_neR g_a17 g_x (by decide)))
                have g_a11 : h_50 a11 = some (52, 0, .inl ((G.2.1 1), 300, .inr (.inl (fun i => lN (fv i))))) := (congrFun eh_50 a11).symm.trans (fU_keep g_a11 (f_neR g_a11 g_x (by decide)))
                have hW9 : fF (inR [40]) h_28 h_50 := by rw [← eh_50]; exact fF.rf.set g_x (by decide)
                have g_x : h_50 x = some (40, 0, .inr (8, mo mf_49)) := (congrFun eh_50 x).symm.trans (fU_self _ _ _)
                have hFc := mFc.keep (mf' := mf_49) hFc (fun j h1 h2 => (congrFun emf_49 j).symm.trans (va_up_ne _ _ (ne_out h1 h2 (by decide)))) hW9 (by decide)
                have hEd := mEd.keep (mf' := mf_49) hEd (fun j h1 h2 => (congrFun emf_49 j).symm.trans (va_up_ne _ _ (ne_out h1 h2 (by decide)))) hW9 (by decide)
                have hm1 : ∀ j, j < 14 ∨ 20 < j → mf_49 j = mf j := fun j hj => (congrFun emf_49 j).symm.trans ((va_up_ne _ _ (ne_rng hj (by decide))).trans (hm1 j hj))
                refine lv_iload hx hb d_MO_reckon_173 (lv_at hl 2 rfl) ?_
                refine lv_iconst (v := (-1)) hx hb d_MO_reckon_175 (by decide) ?_
                refine lv_icmp_eq (tgt := 191) hx hb d_MO_reckon_176 (by decide) (fun c_51 => ?_) (fun c_51 => absurd rfl c_51)
                refine lv_iconst (v := 0) hx hb d_MO_reckon_191 (by decide) ?_
                have hrk : rk (mK nf fl fk fd fw fv lot day on) (mE ne ef rr rm day) = (21, d0) := by rw [hed]; show rkE _ _ _ = _; unfold rkE; simp only [hK0, hK1, hK2]; rw [show mF rr rm e1 0 (fv i0) (fv i1) = none from eR]
                exact f_zret C hr rfl hI ⟨by rw [hrk]; rfl, mf_49, g_x, hm1, by rw [hrk]; exact ⟨sl, sr, sc, ⟨a15, a16, a17, ⟨v_14, v_15, v_16, v_17, v_18, v_19, v_20⟩, ⟨g_a15, g_a16, g_a17⟩⟩, fun i q hi => by simp [d0] at hi⟩, hF⟩ hX (Nat.le_refl _) (Nat.le_refl _) d_MO_reckon_192
              · rw [ek3, bI_k (by omega)]
                have hK3 : (mK nf fl fk fd fw fv lot day on) 3 = some (fv i3) := by show kv fv (hk fl fk fd fw lot 3 day on nf) = _; rw [ek3]; exact kv_k (by omega)
                have bi3 : i3 < 300 := by omega
                refine lv_istore (lv' := [(15, .int (nI i3)), (14, .int (nI r)), (13, .int (-1)), (11, .long (lN (fv i2))), (9, .long (lN (fv i1))), (7, .long (lN (fv i0))), (6, .int (nI e1)), (0, .ref x), (1, .int (nI lot)), (2, .long (lN day)), (4, .long (lN on))]) hx hb d_MO_reckon_155 hl (by decide) rfl (fun ls hl => ?_)
                refine lv_aload_n hx hb d_MO_reckon_157 rfl (lv_at hl 7 rfl) ?_
                refine lv_iload hx hb d_MO_reckon_158 (lv_at hl 2 rfl) ?_
                refine lv_iconst (v := (-1)) hx hb d_MO_reckon_160 (by decide) ?_
                refine lv_icmp_ne (tgt := 169) hx hb d_MO_reckon_161 (by decide) (fun c_52 => absurd rfl c_52) (fun c_52 => ?_)
                refine lv_bipush (v := 21) hx hb d_MO_reckon_164 (by decide) ?_
                refine lv_goto (tgt := 170) hx hb d_MO_reckon_166 (by decide) ?_
                refine f_put (C := "DutyRulesModel") (T := T_MO) (N := 40) (fs' := mo (va_up mf_27 14 (.int 21))) (v := .int 21) hx hb (fun w q => hT w (s_MO w q)) t_MO k_MO n_MO hown hK hI g_x (by decide) rfl 14 (by decide) (hT _ w_823) (fun _ q => q) rfl rfl rfl (by rw [mo_len]; decide) (mo_set _) d_MO_reckon_170 (fun H locs hI => ?_)
                generalize emf_53 : va_up mf_27 14 (.int 21) = mf_53 at hI
                have v_11 : mf_53 11 = .ref a11 := (congrFun emf_53 11).symm.trans ((va_up_ne _ _ (by decide)).trans v_11)
                have v_15 : mf_53 15 = .ref a15 := (congrFun emf_53 15).symm.trans ((va_up_ne _ _ (by decide)).trans v_15)
                have v_16 : mf_53 16 = .ref a16 := (congrFun emf_53 16).symm.trans ((va_up_ne _ _ (by decide)).trans v_16)
                have v_17 : mf_53 17 = .ref a17 := (congrFun emf_53 17).symm.trans ((va_up_ne _ _ (by decide)).trans v_17)
                have v_18 : mf_53 18 = .int 0 := (congrFun emf_53 18).symm.trans ((va_up_ne _ _ (by decide)).trans v_18)
                have v_19 : mf_53 19 = .long 0 := (congrFun emf_53 19).symm.trans ((va_up_ne _ _ (by decide)).trans v_19)
                have v_20 : mf_53 20 = .long 0 := (congrFun emf_53 20).symm.trans ((va_up_ne _ _ (by decide)).trans v_20)
                have v_14 : mf_53 14 = .int 21 := (congrFun emf_53 14).symm.trans (va_up_self _ _ _)
                generalize eh_54 : fU h_28 x (40, 0, .inr (8, mo mf_53)) = h_54 at hI
                have hX := hX.set (e := .inr (8, mo mf_53)) g_x (by decide); rw [eh_54] at hX
                have hF := hF.set (e := .inr (8, mo mf_53)) g_x (by decide); rw [eh_54] at hF
                have g_a15 : h_54 a15 = some (56, 0, .inl ((G.2.1 0), 5, .inl (fun i => nI (sl i)))) := (congrFun eh_54 a15).symm.trans (fU_keep g_a15 (f_neR g_a15 g_x (by decide)))
                have g_a16 : h_54 a16 = some (57, 0, .inl ((G.2.1 0), 5, .inl (fun i => nI (sr i)))) := (congrFun eh_54 a16).symm.trans (fU_keep g_a16 (f_neR g_a16 g_x (by decide)))
                have g_a17 : h_54 a17 = some (58, 0, .inl ((G.2.1 1), 5, .inr (.inl (fun i => lN (sc i))))) := (congrFun eh_54 a17).symm.trans (fU_keep g_a17 (f_neR g_a17 g_x (by decide)))
                have g_a11 : h_54 a11 = some (52, 0, .inl ((G.2.1 1), 300, .inr (.inl (fun i => lN (fv i))))) := (congrFun eh_54 a11).symm.trans (fU_keep g_a11 (f_neR g_a11 g_x (by decide)))
                have hW9 : fF (inR [40]) h_28 h_54 := by rw [← eh_54]; exact fF.rf.set g_x (by decide)
                have g_x : h_54 x = some (40, 0, .inr (8, mo mf_53)) := (congrFun eh_54 x).symm.trans (fU_self _ _ _)
                have hFc := mFc.keep (mf' := mf_53) hFc (fun j h1 h2 => (congrFun emf_53 j).symm.trans (va_up_ne _ _ (ne_out h1 h2 (by decide)))) hW9 (by decide)
                have hEd := mEd.keep (mf' := mf_53) hEd (fun j h1 h2 => (congrFun emf_53 j).symm.trans (va_up_ne _ _ (ne_out h1 h2 (by decide)))) hW9 (by decide)
                have hm1 : ∀ j, j < 14 ∨ 20 < j → mf_53 j = mf j := fun j hj => (congrFun emf_53 j).symm.trans ((va_up_ne _ _ (ne_rng hj (by decide))).trans (hm1 j hj))
                refine lv_iload hx hb d_MO_reckon_173 (lv_at hl 2 rfl) ?_
                refine lv_iconst (v := (-1)) hx hb d_MO_reckon_175 (by decide) ?_
                refine lv_icmp_eq (tgt := 191) hx hb d_MO_reckon_176 (by decide) (fun c_55 => ?_) (fun c_55 => absurd rfl c_55)
                refine lv_iconst (v := 0) hx hb d_MO_reckon_191 (by decide) ?_
                have hrk : rk (mK nf fl fk fd fw fv lot day on) (mE ne ef rr rm day) = (21, d0) := by rw [hed]; show rkE _ _ _ = _; unfold rkE; simp only [hK0, hK1, hK2]; rw [show mF rr rm e1 0 (fv i0) (fv i1) = none from eR]
                exact f_zret C hr rfl hI ⟨by rw [hrk]; rfl, mf_53, g_x, hm1, by rw [hrk]; exact ⟨sl, sr, sc, ⟨a15, a16, a17, ⟨v_14, v_15, v_16, v_17, v_18, v_19, v_20⟩, ⟨g_a15, g_a16, g_a17⟩⟩, fun i q hi => by simp [d0] at hi⟩, hF⟩ hX (Nat.le_refl _) (Nat.le_refl _) d_MO_reckon_192
          · obtain ⟨-, rate2, rate3⟩ := ff_in eR
            have hkrate := fp_k rate3
            have hrm := brm e1
            have hrt := (brk e1 rate be (by omega)).2.2.1 hkrate
            have r40 : rate < 40 := by omega
            have hlp : fv i2 * rr ((e1 * 40 + rate) * 5 + 4) ≤ 1000000 * 1000000 := mulle hg2 hrt.2.2
            refine lv_istore (lv' := [(13, .int (nI rate)), (11, .long (lN (fv i2))), (9, .long (lN (fv i1))), (7, .long (lN (fv i0))), (6, .int (nI e1)), (0, .ref x), (1, .int (nI lot)), (2, .long (lN day)), (4, .long (lN on))]) hx hb d_MO_reckon_132 hl (by decide) rfl (fun ls hl => ?_)
            refine lv_aload_n hx hb d_MO_reckon_134 rfl (lv_at hl 5 rfl) ?_
            refine lv_iload hx hb d_MO_reckon_135 (lv_at hl 4 rfl) ?_
            refine lv_iconst (v := 1) hx hb d_MO_reckon_137 (by decide) ?_
            refine lv_lload hx hb d_MO_reckon_138 (lv_at hl 3 rfl) ?_
            refine lv_lconst (v := 0) hx hb d_MO_reckon_140 (by decide) ?_
            refine f_calli hI (f_runV C hI (c_MO_find l G h_28 _ x e1 1 (fv i0) 0 mf_27 g_x ne ef rr rm hEd (by omega) (by omega) (by omega) (by omega)) gm_MO_find w_1032 p_MO_find w_1030 g_x rfl rfl rfl hl.1 rfl (Nat.le_of_ble_eq_true rfl) ⟨Nat.le_of_ble_eq_true rfl, Nat.le_of_ble_eq_true rfl⟩ d_MO_reckon_141 ⟨Nat.le_of_ble_eq_true rfl, Nat.le_of_ble_eq_true rfl⟩) (fun r_56 h8 H9 locs hp9 hX9 hz9 hI => ?_)
            obtain ⟨rfl, e9⟩ := hp9
            rw [e9] at hI
            clear hX9 e9
            rcases eS : ff (fp rr e1 1 (fv i0) 0) 0 (rm e1) with _ | r
            · skip
              refine lv_istore (lv' := [(14, .int (-1)), (13, .int (nI rate)), (11, .long (lN (fv i2))), (9, .long (lN (fv i1))), (7, .long (lN (fv i0))), (6, .int (nI e1)), (0, .ref x), (1, .int (nI lot)), (2, .long (lN day)), (4, .long (lN on))]) hx hb d_MO_reckon_144 hl (by decide) rfl (fun ls hl => ?_)
              refine lv_aload_n hx hb d_MO_reckon_146 rfl (lv_at hl 6 rfl) ?_
              refine lv_iload_n hx hb d_MO_reckon_147 rfl (lv_at hl 7 rfl) ?_
              refine lv_iconst (v := 3) hx hb d_MO_reckon_148 (by decide) ?_
              refine lv_lload_n hx hb d_MO_reckon_149 rfl (lv_at hl 8 rfl) ?_
              refine lv_lload hx hb d_MO_reckon_150 (lv_at hl 9 rfl) ?_
              refine f_calli hI (f_runV C hI (c_MO_holds l G h_28 _ x nf lot 3 day on fl fk fd fw fv mf_27 g_x hFc bl31 (by decide) bd31 bo31) gm_MO_holds w_1028 p_MO_holds w_1026 g_x rfl rfl rfl hl.1 rfl (Nat.le_of_ble_eq_true rfl) ⟨Nat.le_of_ble_eq_true rfl, Nat.le_of_ble_eq_true rfl⟩ d_MO_reckon_152 ⟨Nat.le_of_ble_eq_true rfl, Nat.le_of_ble_eq_true rfl⟩) (fun r_57 h8 H9 locs hp9 hX9 hz9 hI => ?_)
              obtain ⟨rfl, e9⟩ := hp9
              rw [e9] at hI
              clear hX9 e9
              rcases hk_ix (fl := fl) (fk := fk) (fd := fd) (fw := fw) (lot := lot) (kind := 3) (day := day) (on := on) nf with ek3 | ⟨i3, hi3, ek3, hh3⟩
              · rw [ek3, bI_0]
                have hK3 : (mK nf fl fk fd fw fv lot day on) 3 = none := by show kv fv (hk fl fk fd fw lot 3 day on nf) = _; rw [ek3]; rfl
                refine lv_istore (lv' := [(15, .int (-1)), (14, .int (-1)), (13, .int (nI rate)), (11, .long (lN (fv i2))), (9, .long (lN (fv i1))), (7, .long (lN (fv i0))), (6, .int (nI e1)), (0, .ref x), (1, .int (nI lot)), (2, .long (lN day)), (4, .long (lN on))]) hx hb d_MO_reckon_155 hl (by decide) rfl (fun ls hl => ?_)
                refine lv_aload_n hx hb d_MO_reckon_157 rfl (lv_at hl 7 rfl) ?_
                refine lv_iload hx hb d_MO_reckon_158 (lv_at hl 2 rfl) ?_
                refine lv_iconst (v := (-1)) hx hb d_MO_reckon_160 (by decide) ?_
                refine lv_icmp_ne (tgt := 169) hx hb d_MO_reckon_161 (by decide) (fun c_58 => ?_) (fun c_58 => absurd c_58 (n_m1 (by omega)))
                refine lv_iconst (v := 3) hx hb d_MO_reckon_169 (by decide) ?_
                refine f_put (C := "DutyRulesModel") (T := T_MO) (N := 40) (fs' := mo (va_up mf_27 14 (.int 3))) (v := .int 3) hx hb (fun w q => hT w (s_MO w q)) t_MO k_MO n_MO hown hK hI g_x (by decide) rfl 14 (by decide) (hT _ w_823) (fun _ q => q) rfl rfl rfl (by rw [mo_len]; decide) (mo_set _) d_MO_reckon_170 (fun H locs hI => ?_)
                generalize emf_59 : va_up mf_27 14 (.int 3) = mf_59 at hI
                have v_11 : mf_59 11 = .ref a11 := (congrFun emf_59 11).symm.trans ((va_up_ne _ _ (by decide)).trans v_11)
                have v_15 : mf_59 15 = .ref a15 := (congrFun emf_59 15).symm.trans ((va_up_ne _ _ (by decide)).trans v_15)
                have v_16 : mf_59 16 = .ref a16 := (congrFun emf_59 16).symm.trans ((va_up_ne _ _ (by decide)).trans v_16)
                have v_17 : mf_59 17 = .ref a17 := (congrFun emf_59 17).symm.trans ((va_up_ne _ _ (by decide)).trans v_17)
                have v_18 : mf_59 18 = .int 0 := (congrFun emf_59 18).symm.trans ((va_up_ne _ _ (by decide)).trans v_18)
                have v_19 : mf_59 19 = .long 0 := (congrFun emf_59 19).symm.trans ((va_up_ne _ _ (by decide)).trans v_19)
                have v_20 : mf_59 20 = .long 0 := (congrFun emf_59 20).symm.trans ((va_up_ne _ _ (by decide)).trans v_20)
                have v_14 : mf_59 14 = .int 3 := (congrFun emf_59 14).symm.trans (va_up_self _ _ _)
                generalize eh_60 : fU h_28 x (40, 0, .inr (8, mo mf_59)) = h_60 at hI
                have hX := hX.set (e := .inr (8, mo mf_59)) g_x (by decide); rw [eh_60] at hX
                have hF := hF.set (e := .inr (8, mo mf_59)) g_x (by decide); rw [eh_60] at hF
                have g_a15 : h_60 a15 = some (56, 0, .inl ((G.2.1 0), 5, .inl (fun i => nI (sl i)))) := (congrFun eh_60 a15).symm.trans (fU_keep g_a15 (f_neR g_a15 g_x (by decide)))
                have g_a16 : h_60 a16 = some (57, 0, .inl ((G.2.1 0), 5, .inl (fun i => nI (sr i)))) := (congrFun eh_60 a16).symm.trans (fU_keep g_a16 (f_neR g_a16 g_x (by decide)))
                have g_a17 : h_60 a17 = some (58, 0, .inl ((G.2.1 1), 5, .inr (.inl (fun i => lN (sc i))))) := (congrFun eh_60 a17).symm.trans (fU_keep g_a17 (f_neR g_a17 g_x (by decide)))
                have g_a11 : h_60 a11 = some (52, 0, .inl ((G.2.1 1), 300, .inr (.inl (fun i => lN (fv i))))) := (congrFun eh_60 a11).symm.trans (fU_keep g_a11 (f_neR g_a11 g_x (by decide)))
                have hW9 : fF (inR [40]) h_28 h_60 := by rw [← eh_60]; exact fF.rf.set g_x (by decide)
                have g_x : h_60 x = some (40, 0, .inr (8, mo mf_59)) := (congrFun eh_60 x).symm.trans (fU_self _ _ _)
                have hFc := mFc.keep (mf' := mf_59) hFc (fun j h1 h2 => (congrFun emf_59 j).symm.trans (va_up_ne _ _ (ne_out h1 h2 (by decide)))) hW9 (by decide)
                have hEd := mEd.keep (mf' := mf_59) hEd (fun j h1 h2 => (congrFun emf_59 j).symm.trans (va_up_ne _ _ (ne_out h1 h2 (by decide)))) hW9 (by decide)
                have hm1 : ∀ j, j < 14 ∨ 20 < j → mf_59 j = mf j := fun j hj => (congrFun emf_59 j).symm.trans ((va_up_ne _ _ (ne_rng hj (by decide))).trans (hm1 j hj))
                refine lv_iload hx hb d_MO_reckon_173 (lv_at hl 2 rfl) ?_
                refine lv_iconst (v := (-1)) hx hb d_MO_reckon_175 (by decide) ?_
                refine lv_icmp_eq (tgt := 191) hx hb d_MO_reckon_176 (by decide) (fun c_61 => absurd c_61 (n_m1 (by omega))) (fun c_61 => ?_)
                refine lv_iload hx hb d_MO_reckon_179 (lv_at hl 1 rfl) ?_
                refine lv_iconst (v := (-1)) hx hb d_MO_reckon_181 (by decide) ?_
                refine lv_icmp_eq (tgt := 193) hx hb d_MO_reckon_182 (by decide) (fun c_62 => ?_) (fun c_62 => absurd rfl c_62)
                refine lv_aload_n hx hb d_MO_reckon_193 rfl (lv_at hl 7 rfl) ?_
                refine lv_iconst (v := (-1)) hx hb d_MO_reckon_194 (by decide) ?_
                refine f_put (C := "DutyRulesModel") (T := T_MO) (N := 40) (fs' := mo (va_up mf_59 14 (.int (-1)))) (v := .int (-1)) hx hb (fun w q => hT w (s_MO w q)) t_MO k_MO n_MO hown hK hI g_x (by decide) rfl 14 (by decide) (hT _ w_823) (fun _ q => q) rfl rfl rfl (by rw [mo_len]; decide) (mo_set _) d_MO_reckon_195 (fun H locs hI => ?_)
                generalize emf_63 : va_up mf_59 14 (.int (-1)) = mf_63 at hI
                have v_11 : mf_63 11 = .ref a11 := (congrFun emf_63 11).symm.trans ((va_up_ne _ _ (by decide)).trans v_11)
                have v_15 : mf_63 15 = .ref a15 := (congrFun emf_63 15).symm.trans ((va_up_ne _ _ (by decide)).trans v_15)
                have v_16 : mf_63 16 = .ref a16 := (congrFun emf_63 16).symm.trans ((va_up_ne _ _ (by decide)).trans v_16)
                have v_17 : mf_63 17 = .ref a17 := (congrFun emf_63 17).symm.trans ((va_up_ne _ _ (by decide)).trans v_17)
                have v_18 : mf_63 18 = .int 0 := (congrFun emf_63 18).symm.trans ((va_up_ne _ _ (by decide)).trans v_18)
                have v_19 : mf_63 19 = .long 0 := (congrFun emf_63 19).symm.trans ((va_up_ne _ _ (by decide)).trans v_19)
                have v_20 : mf_63 20 = .long 0 := (congrFun emf_63 20).symm.trans ((va_up_ne _ _ (by decide)).trans v_20)
                have v_14 : mf_63 14 = .int (-1) := (congrFun emf_63 14).symm.trans (va_up_self _ _ _)
                generalize eh_64 : fU h_60 x (40, 0, .inr (8, mo mf_63)) = h_64 at hI
                have hX := hX.set (e := .inr (8, mo mf_63)) g_x (by decide); rw [eh_64] at hX
                have hF := hF.set (e := .inr (8, mo mf_63)) g_x (by decide); rw [eh_64] at hF
                have g_a15 : h_64 a15 = some (56, 0, .inl ((G.2.1 0), 5, .inl (fun i => nI (sl i)))) := (congrFun eh_64 a15).symm.trans (fU_keep g_a15 (f_neR g_a15 g_x (by decide)))
                have g_a16 : h_64 a16 = some (57, 0, .inl ((G.2.1 0), 5, .inl (fun i => nI (sr i)))) := (congrFun eh_64 a16).symm.trans (fU_keep g_a16 (f_neR g_a16 g_x (by decide)))
                have g_a17 : h_64 a17 = some (58, 0, .inl ((G.2.1 1), 5, .inr (.inl (fun i => lN (sc i))))) := (congrFun eh_64 a17).symm.trans (fU_keep g_a17 (f_neR g_a17 g_x (by decide)))
                have g_a11 : h_64 a11 = some (52, 0, .inl ((G.2.1 1), 300, .inr (.inl (fun i => lN (fv i))))) := (congrFun eh_64 a11).symm.trans (fU_keep g_a11 (f_neR g_a11 g_x (by decide)))
                have hW9 : fF (inR [40]) h_60 h_64 := by rw [← eh_64]; exact fF.rf.set g_x (by decide)
                have g_x : h_64 x = some (40, 0, .inr (8, mo mf_63)) := (congrFun eh_64 x).symm.trans (fU_self _ _ _)
                have hFc := mFc.keep (mf' := mf_63) hFc (fun j h1 h2 => (congrFun emf_63 j).symm.trans (va_up_ne _ _ (ne_out h1 h2 (by decide)))) hW9 (by decide)
                have hEd := mEd.keep (mf' := mf_63) hEd (fun j h1 h2 => (congrFun emf_63 j).symm.trans (va_up_ne _ _ (ne_out h1 h2 (by decide)))) hW9 (by decide)
                have hm1 : ∀ j, j < 14 ∨ 20 < j → mf_63 j = mf j := fun j hj => (congrFun emf_63 j).symm.trans ((va_up_ne _ _ (ne_rng hj (by decide))).trans (hm1 j hj))
                refine lv_aload_n hx hb d_MO_reckon_198 rfl (lv_at hl 7 rfl) ?_
                refine lv_iload hx hb d_MO_reckon_199 (lv_at hl 6 rfl) ?_
                refine lv_iload hx hb d_MO_reckon_201 (lv_at hl 2 rfl) ?_
                refine lv_iconst (v := 4) hx hb d_MO_reckon_203 (by decide) ?_
                refine f_calli hI (f_runV C hI (c_MO_value l G h_64 _ x e1 rate 4 mf_63 g_x ne ef rr rm hEd (by omega) (by omega) (by omega)) gm_MO_value w_1036 p_MO_value w_1034 g_x rfl rfl rfl hl.1 rfl (Nat.le_of_ble_eq_true rfl) ⟨Nat.le_of_ble_eq_true rfl, Nat.le_of_ble_eq_true rfl⟩ d_MO_reckon_204 ⟨Nat.le_of_ble_eq_true rfl, Nat.le_of_ble_eq_true rfl⟩) (fun r_65 h8 H9 locs hp9 hX9 hz9 hI => ?_)
                obtain ⟨rfl, e9⟩ := hp9
                rw [e9] at hI
                clear hX9 e9
                refine lv_i2l (v := lN (rr ((e1 * 40 + rate) * 5 + 4))) hx hb d_MO_reckon_207 (n_i2l (by have := brr ((e1 * 40 + rate) * 5 + 4); omega)) ?_
                refine lv_lstore (lv' := [(16, .long (lN (rr ((e1 * 40 + rate) * 5 + 4)))), (15, .int (-1)), (14, .int (-1)), (13, .int (nI rate)), (11, .long (lN (fv i2))), (9, .long (lN (fv i1))), (7, .long (lN (fv i0))), (6, .int (nI e1)), (0, .ref x), (1, .int (nI lot)), (2, .long (lN day)), (4, .long (lN on))]) hx hb d_MO_reckon_208 hl (by decide) rfl (fun ls hl => ?_)
                refine lv_aload_n hx hb d_MO_reckon_210 rfl (lv_at hl 8 rfl) ?_
                refine lv_lload hx hb d_MO_reckon_211 (lv_at hl 4 rfl) ?_
                refine lv_lload hx hb d_MO_reckon_213 (lv_at hl 0 rfl) ?_
                refine lv_lmul hx hb d_MO_reckon_215 ?_
                refine f_asl (lN_mul (fv i2) (rr ((e1 * 40 + rate) * 5 + 4))) ?_
                refine lv_ldc2 (v := 1000000) hx hb hown (hT _ w_1008) d_MO_reckon_216 ?_
                refine lv_lmul hx hb d_MO_reckon_219 ?_
                refine f_asl (lN_mul ((fv i2) * (rr ((e1 * 40 + rate) * 5 + 4))) 1000000) ?_
                refine f_put (C := "DutyRulesModel") (T := T_MO) (N := 40) (fs' := mo (va_up mf_63 20 (.long (lN (((fv i2) * (rr ((e1 * 40 + rate) * 5 + 4))) * 1000000))))) (v := .long (lN (((fv i2) * (rr ((e1 * 40 + rate) * 5 + 4))) * 1000000))) hx hb (fun w q => hT w (s_MO w q)) t_MO k_MO n_MO hown hK hI g_x (by decide) rfl 20 (by decide) (hT _ w_829) (fun _ q => q) rfl rfl rfl (by rw [mo_len]; decide) (mo_set _) d_MO_reckon_220 (fun H locs hI => ?_)
                generalize emf_66 : va_up mf_63 20 (.long (lN (((fv i2) * (rr ((e1 * 40 + rate) * 5 + 4))) * 1000000))) = mf_66 at hI
                have v_11 : mf_66 11 = .ref a11 := (congrFun emf_66 11).symm.trans ((va_up_ne _ _ (by decide)).trans v_11)
                have v_14 : mf_66 14 = .int (-1) := (congrFun emf_66 14).symm.trans ((va_up_ne _ _ (by decide)).trans v_14)
                have v_15 : mf_66 15 = .ref a15 := (congrFun emf_66 15).symm.trans ((va_up_ne _ _ (by decide)).trans v_15)
                have v_16 : mf_66 16 = .ref a16 := (congrFun emf_66 16).symm.trans ((va_up_ne _ _ (by decide)).trans v_16)
                have v_17 : mf_66 17 = .ref a17 := (congrFun emf_66 17).symm.trans ((va_up_ne _ _ (by decide)).trans v_17)
                have v_18 : mf_66 18 = .int 0 := (congrFun emf_66 18).symm.trans ((va_up_ne _ _ (by decide)).trans v_18)
                have v_19 : mf_66 19 = .long 0 := (congrFun emf_66 19).symm.trans ((va_up_ne _ _ (by decide)).trans v_19)
                have v_20 : mf_66 20 = .long (lN (((fv i2) * (rr ((e1 * 40 + rate) * 5 + 4))) * 1000000)) := (congrFun emf_66 20).symm.trans (va_up_self _ _ _)
                generalize eh_67 : fU h_64 x (40, 0, .inr (8, mo mf_66)) = h_67 at hI
                have hX := hX.set (e := .inr (8, mo mf_66)) g_x (by decide); rw [eh_67] at hX
                have hF := hF.set (e := .inr (8, mo mf_66)) g_x (by decide); rw [eh_67] at hF
                have g_a15 : h_67 a15 = some (56, 0, .inl ((G.2.1 0), 5, .inl (fun i => nI (sl i)))) := (congrFun eh_67 a15).symm.trans (fU_keep g_a15 (f_neR g_a15 g_x (by decide)))
                have g_a16 : h_67 a16 = some (57, 0, .inl ((G.2.1 0), 5, .inl (fun i => nI (sr i)))) := (congrFun eh_67 a16).symm.trans (fU_keep g_a16 (f_neR g_a16 g_x (by decide)))
                have g_a17 : h_67 a17 = some (58, 0, .inl ((G.2.1 1), 5, .inr (.inl (fun i => lN (sc i))))) := (congrFun eh_67 a17).symm.trans (fU_keep g_a17 (f_neR g_a17 g_x (by decide)))
                have g_a11 : h_67 a11 = some (52, 0, .inl ((G.2.1 1), 300, .inr (.inl (fun i => lN (fv i))))) := (congrFun eh_67 a11).symm.trans (fU_keep g_a11 (f_neR g_a11 g_x (by decide)))
                have hW9 : fF (inR [40]) h_64 h_67 := by rw [← eh_67]; exact fF.rf.set g_x (by decide)
                have g_x : h_67 x = some (40, 0, .inr (8, mo mf_66)) := (congrFun eh_67 x).symm.trans (fU_self _ _ _)
                have hFc := mFc.keep (mf' := mf_66) hFc (fun j h1 h2 => (congrFun emf_66 j).symm.trans (va_up_ne _ _ (ne_out h1 h2 (by decide)))) hW9 (by decide)
                have hEd := mEd.keep (mf' := mf_66) hEd (fun j h1 h2 => (congrFun emf_66 j).symm.trans (va_up_ne _ _ (ne_out h1 h2 (by decide)))) hW9 (by decide)
                have hm1 : ∀ j, j < 14 ∨ 20 < j → mf_66 j = mf j := fun j hj => (congrFun emf_66 j).symm.trans ((va_up_ne _ _ (ne_rng hj (by decide))).trans (hm1 j hj))
                refine lv_aload_n hx hb d_MO_reckon_223 rfl (lv_at hl 8 rfl) ?_
                refine lv_iconst (v := 0) hx hb d_MO_reckon_224 (by decide) ?_
                refine lv_iload hx hb d_MO_reckon_225 (lv_at hl 3 rfl) ?_
                have hz8 := hI.2.2.2.1
                refine f_callv hI (f_runV C hI (c_MO_step l G h_67 _ x 0 rate mf_66 g_x _ (0) sl sr sc _ _ ⟨a15, a16, a17, ⟨v_14, v_15, v_16, v_17, v_18, v_19, v_20⟩, ⟨g_a15, g_a16, g_a17⟩⟩ (by omega) (by omega)) gm_MO_step w_1040 p_MO_step w_1038 g_x rfl rfl rfl hl.1 rfl (Nat.le_of_ble_eq_true rfl) ⟨Nat.le_of_ble_eq_true rfl, Nat.le_of_ble_eq_true rfl⟩ d_MO_reckon_227 ⟨Nat.le_of_ble_eq_true rfl, Nat.le_of_ble_eq_true rfl⟩) (fun h9 H9 locs hp9 hX9 hz9 hI => ?_)
                obtain ⟨mf_69, g_x, hm9, hSt, hF9⟩ := hp9
                have hFc := hFc.keep (fun j h1 h2 => hm9 j (ne_out h1 h2 (by decide))) hF9 (by decide)
                have hEd := hEd.keep (fun j h1 h2 => hm9 j (ne_out h1 h2 (by decide))) hF9 (by decide)
                have hm1 : ∀ j, j < 14 ∨ 20 < j → mf_69 j = mf j := fun j hj => (hm9 j (ne_rng hj (by decide))).trans (hm1 j hj)
                have hF := hF.tr hF9
                have hX := fX.tr (by omega) hX hX9
                have h3 : ¬ ((mF rr rm e1 1 (fv i0) 0).isSome = true ∧ ((mK nf fl fk fd fw fv lot day on) 3).isNone = true) := fun q => by have h4 := q.1; unfold mF at h4; rw [eS] at h4; cases h4
                have hrk : rk (mK nf fl fk fd fw fv lot day on) (mE ne ef rr rm day) = (-1, rkS (mK nf fl fk fd fw fv lot day on) (mF rr rm e1) (mV rr e1) (fv i0) (fv i2) rate) := by rw [hed]; show rkE _ _ _ = _; unfold rkE; simp only [hK0, hK1, hK2]; rw [show mF rr rm e1 0 (fv i0) (fv i1) = some rate from eR]; exact if_neg h3
                refine JB e1 (fv i0) (fv i2) rate (rr ((e1 * 40 + rate) * 5 + 4)) be hg0 hg2 hrt.2.2 _ mf_69 (sA (fv i2) (rr ((e1 * 40 + rate) * 5 + 4)) rate) _ _ g_x hFc hEd ?_ hm1 hF hX hI hrk ⟨Nat.le_refl 1, rfl, rfl, h3⟩ ls ?_
                · exact ⟨va_up sl 0 0, va_up sr 0 rate, va_up sc 0 ((((fv i2) * (rr ((e1 * 40 + rate) * 5 + 4))) * 1000000) / CT), hSt, mSd.add (L := []) (fun i q hi => by simp at hi) 0 rate _⟩
                rw [eS, ek3, bI_0]
                exact lv_sub hl [8, 9, 10, 11, 7, 6, 4, 3, 2, 1, 0] rfl
              · rw [ek3, bI_k (by omega)]
                have hK3 : (mK nf fl fk fd fw fv lot day on) 3 = some (fv i3) := by show kv fv (hk fl fk fd fw lot 3 day on nf) = _; rw [ek3]; exact kv_k (by omega)
                have bi3 : i3 < 300 := by omega
                refine lv_istore (lv' := [(15, .int (nI i3)), (14, .int (-1)), (13, .int (nI rate)), (11, .long (lN (fv i2))), (9, .long (lN (fv i1))), (7, .long (lN (fv i0))), (6, .int (nI e1)), (0, .ref x), (1, .int (nI lot)), (2, .long (lN day)), (4, .long (lN on))]) hx hb d_MO_reckon_155 hl (by decide) rfl (fun ls hl => ?_)
                refine lv_aload_n hx hb d_MO_reckon_157 rfl (lv_at hl 7 rfl) ?_
                refine lv_iload hx hb d_MO_reckon_158 (lv_at hl 2 rfl) ?_
                refine lv_iconst (v := (-1)) hx hb d_MO_reckon_160 (by decide) ?_
                refine lv_icmp_ne (tgt := 169) hx hb d_MO_reckon_161 (by decide) (fun c_70 => ?_) (fun c_70 => absurd c_70 (n_m1 (by omega)))
                refine lv_iconst (v := 3) hx hb d_MO_reckon_169 (by decide) ?_
                refine f_put (C := "DutyRulesModel") (T := T_MO) (N := 40) (fs' := mo (va_up mf_27 14 (.int 3))) (v := .int 3) hx hb (fun w q => hT w (s_MO w q)) t_MO k_MO n_MO hown hK hI g_x (by decide) rfl 14 (by decide) (hT _ w_823) (fun _ q => q) rfl rfl rfl (by rw [mo_len]; decide) (mo_set _) d_MO_reckon_170 (fun H locs hI => ?_)
                generalize emf_71 : va_up mf_27 14 (.int 3) = mf_71 at hI
                have v_11 : mf_71 11 = .ref a11 := (congrFun emf_71 11).symm.trans ((va_up_ne _ _ (by decide)).trans v_11)
                have v_15 : mf_71 15 = .ref a15 := (congrFun emf_71 15).symm.trans ((va_up_ne _ _ (by decide)).trans v_15)
                have v_16 : mf_71 16 = .ref a16 := (congrFun emf_71 16).symm.trans ((va_up_ne _ _ (by decide)).trans v_16)
                have v_17 : mf_71 17 = .ref a17 := (congrFun emf_71 17).symm.trans ((va_up_ne _ _ (by decide)).trans v_17)
                have v_18 : mf_71 18 = .int 0 := (congrFun emf_71 18).symm.trans ((va_up_ne _ _ (by decide)).trans v_18)
                have v_19 : mf_71 19 = .long 0 := (congrFun emf_71 19).symm.trans ((va_up_ne _ _ (by decide)).trans v_19)
                have v_20 : mf_71 20 = .long 0 := (congrFun emf_71 20).symm.trans ((va_up_ne _ _ (by decide)).trans v_20)
                have v_14 : mf_71 14 = .int 3 := (congrFun emf_71 14).symm.trans (va_up_self _ _ _)
                generalize eh_72 : fU h_28 x (40, 0, .inr (8, mo mf_71)) = h_72 at hI
                have hX := hX.set (e := .inr (8, mo mf_71)) g_x (by decide); rw [eh_72] at hX
                have hF := hF.set (e := .inr (8, mo mf_71)) g_x (by decide); rw [eh_72] at hF
                have g_a15 : h_72 a15 = some (56, 0, .inl ((G.2.1 0), 5, .inl (fun i => nI (sl i)))) := (congrFun eh_72 a15).symm.trans (fU_keep g_a15 (f_neR g_a15 g_x (by decide)))
                have g_a16 : h_72 a16 = some (57, 0, .inl ((G.2.1 0), 5, .inl (fun i => nI (sr i)))) := (congrFun eh_72 a16).symm.trans (fU_keep g_a16 (f_neR g_a16 g_x (by decide)))
                have g_a17 : h_72 a17 = some (58, 0, .inl ((G.2.1 1), 5, .inr (.inl (fun i => lN (sc i))))) := (congrFun eh_72 a17).symm.trans (fU_keep g_a17 (f_neR g_a17 g_x (by decide)))
                have g_a11 : h_72 a11 = some (52, 0, .inl ((G.2.1 1), 300, .inr (.inl (fun i => lN (fv i))))) := (congrFun eh_72 a11).symm.trans (fU_keep g_a11 (f_neR g_a11 g_x (by decide)))
                have hW9 : fF (inR [40]) h_28 h_72 := by rw [← eh_72]; exact fF.rf.set g_x (by decide)
                have g_x : h_72 x = some (40, 0, .inr (8, mo mf_71)) := (congrFun eh_72 x).symm.trans (fU_self _ _ _)
                have hFc := mFc.keep (mf' := mf_71) hFc (fun j h1 h2 => (congrFun emf_71 j).symm.trans (va_up_ne _ _ (ne_out h1 h2 (by decide)))) hW9 (by decide)
                have hEd := mEd.keep (mf' := mf_71) hEd (fun j h1 h2 => (congrFun emf_71 j).symm.trans (va_up_ne _ _ (ne_out h1 h2 (by decide)))) hW9 (by decide)
                have hm1 : ∀ j, j < 14 ∨ 20 < j → mf_71 j = mf j := fun j hj => (congrFun emf_71 j).symm.trans ((va_up_ne _ _ (ne_rng hj (by decide))).trans (hm1 j hj))
                refine lv_iload hx hb d_MO_reckon_173 (lv_at hl 2 rfl) ?_
                refine lv_iconst (v := (-1)) hx hb d_MO_reckon_175 (by decide) ?_
                refine lv_icmp_eq (tgt := 191) hx hb d_MO_reckon_176 (by decide) (fun c_73 => absurd c_73 (n_m1 (by omega))) (fun c_73 => ?_)
                refine lv_iload hx hb d_MO_reckon_179 (lv_at hl 1 rfl) ?_
                refine lv_iconst (v := (-1)) hx hb d_MO_reckon_181 (by decide) ?_
                refine lv_icmp_eq (tgt := 193) hx hb d_MO_reckon_182 (by decide) (fun c_74 => ?_) (fun c_74 => absurd rfl c_74)
                refine lv_aload_n hx hb d_MO_reckon_193 rfl (lv_at hl 7 rfl) ?_
                refine lv_iconst (v := (-1)) hx hb d_MO_reckon_194 (by decide) ?_
                refine f_put (C := "DutyRulesModel") (T := T_MO) (N := 40) (fs' := mo (va_up mf_71 14 (.int (-1)))) (v := .int (-1)) hx hb (fun w q => hT w (s_MO w q)) t_MO k_MO n_MO hown hK hI g_x (by decide) rfl 14 (by decide) (hT _ w_823) (fun _ q => q) rfl rfl rfl (by rw [mo_len]; decide) (mo_set _) d_MO_reckon_195 (fun H locs hI => ?_)
                generalize emf_75 : va_up mf_71 14 (.int (-1)) = mf_75 at hI
                have v_11 : mf_75 11 = .ref a11 := (congrFun emf_75 11).symm.trans ((va_up_ne _ _ (by decide)).trans v_11)
                have v_15 : mf_75 15 = .ref a15 := (congrFun emf_75 15).symm.trans ((va_up_ne _ _ (by decide)).trans v_15)
                have v_16 : mf_75 16 = .ref a16 := (congrFun emf_75 16).symm.trans ((va_up_ne _ _ (by decide)).trans v_16)
                have v_17 : mf_75 17 = .ref a17 := (congrFun emf_75 17).symm.trans ((va_up_ne _ _ (by decide)).trans v_17)
                have v_18 : mf_75 18 = .int 0 := (congrFun emf_75 18).symm.trans ((va_up_ne _ _ (by decide)).trans v_18)
                have v_19 : mf_75 19 = .long 0 := (congrFun emf_75 19).symm.trans ((va_up_ne _ _ (by decide)).trans v_19)
                have v_20 : mf_75 20 = .long 0 := (congrFun emf_75 20).symm.trans ((va_up_ne _ _ (by decide)).trans v_20)
                have v_14 : mf_75 14 = .int (-1) := (congrFun emf_75 14).symm.trans (va_up_self _ _ _)
                generalize eh_76 : fU h_72 x (40, 0, .inr (8, mo mf_75)) = h_76 at hI
                have hX := hX.set (e := .inr (8, mo mf_75)) g_x (by decide); rw [eh_76] at hX
                have hF := hF.set (e := .inr (8, mo mf_75)) g_x (by decide); rw [eh_76] at hF
                have g_a15 : h_76 a15 = some (56, 0, .inl ((G.2.1 0), 5, .inl (fun i => nI (sl i)))) := (congrFun eh_76 a15).symm.trans (fU_keep g_a15 (f_neR g_a15 g_x (by decide)))
                have g_a16 : h_76 a16 = some (57, 0, .inl ((G.2.1 0), 5, .inl (fun i => nI (sr i)))) := (congrFun eh_76 a16).symm.trans (fU_keep g_a16 (f_neR g_a16 g_x (by decide)))
                have g_a17 : h_76 a17 = some (58, 0, .inl ((G.2.1 1), 5, .inr (.inl (fun i => lN (sc i))))) := (congrFun eh_76 a17).symm.trans (fU_keep g_a17 (f_neR g_a17 g_x (by decide)))
                have g_a11 : h_76 a11 = some (52, 0, .inl ((G.2.1 1), 300, .inr (.inl (fun i => lN (fv i))))) := (congrFun eh_76 a11).symm.trans (fU_keep g_a11 (f_neR g_a11 g_x (by decide)))
                have hW9 : fF (inR [40]) h_72 h_76 := by rw [← eh_76]; exact fF.rf.set g_x (by decide)
                have g_x : h_76 x = some (40, 0, .inr (8, mo mf_75)) := (congrFun eh_76 x).symm.trans (fU_self _ _ _)
                have hFc := mFc.keep (mf' := mf_75) hFc (fun j h1 h2 => (congrFun emf_75 j).symm.trans (va_up_ne _ _ (ne_out h1 h2 (by decide)))) hW9 (by decide)
                have hEd := mEd.keep (mf' := mf_75) hEd (fun j h1 h2 => (congrFun emf_75 j).symm.trans (va_up_ne _ _ (ne_out h1 h2 (by decide)))) hW9 (by decide)
                have hm1 : ∀ j, j < 14 ∨ 20 < j → mf_75 j = mf j := fun j hj => (congrFun emf_75 j).symm.trans ((va_up_ne _ _ (ne_rng hj (by decide))).trans (hm1 j hj))
                refine lv_aload_n hx hb d_MO_reckon_198 rfl (lv_at hl 7 rfl) ?_
                refine lv_iload hx hb d_MO_reckon_199 (lv_at hl 6 rfl) ?_
                refine lv_iload hx hb d_MO_reckon_201 (lv_at hl 2 rfl) ?_
                refine lv_iconst (v := 4) hx hb d_MO_reckon_203 (by decide) ?_
                refine f_calli hI (f_runV C hI (c_MO_value l G h_76 _ x e1 rate 4 mf_75 g_x ne ef rr rm hEd (by omega) (by omega) (by omega)) gm_MO_value w_1036 p_MO_value w_1034 g_x rfl rfl rfl hl.1 rfl (Nat.le_of_ble_eq_true rfl) ⟨Nat.le_of_ble_eq_true rfl, Nat.le_of_ble_eq_true rfl⟩ d_MO_reckon_204 ⟨Nat.le_of_ble_eq_true rfl, Nat.le_of_ble_eq_true rfl⟩) (fun r_77 h8 H9 locs hp9 hX9 hz9 hI => ?_)
                obtain ⟨rfl, e9⟩ := hp9
                rw [e9] at hI
                clear hX9 e9
                refine lv_i2l (v := lN (rr ((e1 * 40 + rate) * 5 + 4))) hx hb d_MO_reckon_207 (n_i2l (by have := brr ((e1 * 40 + rate) * 5 + 4); omega)) ?_
                refine lv_lstore (lv' := [(16, .long (lN (rr ((e1 * 40 + rate) * 5 + 4)))), (15, .int (nI i3)), (14, .int (-1)), (13, .int (nI rate)), (11, .long (lN (fv i2))), (9, .long (lN (fv i1))), (7, .long (lN (fv i0))), (6, .int (nI e1)), (0, .ref x), (1, .int (nI lot)), (2, .long (lN day)), (4, .long (lN on))]) hx hb d_MO_reckon_208 hl (by decide) rfl (fun ls hl => ?_)
                refine lv_aload_n hx hb d_MO_reckon_210 rfl (lv_at hl 8 rfl) ?_
                refine lv_lload hx hb d_MO_reckon_211 (lv_at hl 4 rfl) ?_
                refine lv_lload hx hb d_MO_reckon_213 (lv_at hl 0 rfl) ?_
                refine lv_lmul hx hb d_MO_reckon_215 ?_
                refine f_asl (lN_mul (fv i2) (rr ((e1 * 40 + rate) * 5 + 4))) ?_
                refine lv_ldc2 (v := 1000000) hx hb hown (hT _ w_1008) d_MO_reckon_216 ?_
                refine lv_lmul hx hb d_MO_reckon_219 ?_
                refine f_asl (lN_mul ((fv i2) * (rr ((e1 * 40 + rate) * 5 + 4))) 1000000) ?_
                refine f_put (C := "DutyRulesModel") (T := T_MO) (N := 40) (fs' := mo (va_up mf_75 20 (.long (lN (((fv i2) * (rr ((e1 * 40 + rate) * 5 + 4))) * 1000000))))) (v := .long (lN (((fv i2) * (rr ((e1 * 40 + rate) * 5 + 4))) * 1000000))) hx hb (fun w q => hT w (s_MO w q)) t_MO k_MO n_MO hown hK hI g_x (by decide) rfl 20 (by decide) (hT _ w_829) (fun _ q => q) rfl rfl rfl (by rw [mo_len]; decide) (mo_set _) d_MO_reckon_220 (fun H locs hI => ?_)
                generalize emf_78 : va_up mf_75 20 (.long (lN (((fv i2) * (rr ((e1 * 40 + rate) * 5 + 4))) * 1000000))) = mf_78 at hI
                have v_11 : mf_78 11 = .ref a11 := (congrFun emf_78 11).symm.trans ((va_up_ne _ _ (by decide)).trans v_11)
                have v_14 : mf_78 14 = .int (-1) := (congrFun emf_78 14).symm.trans ((va_up_ne _ _ (by decide)).trans v_14)
                have v_15 : mf_78 15 = .ref a15 := (congrFun emf_78 15).symm.trans ((va_up_ne _ _ (by decide)).trans v_15)
                have v_16 : mf_78 16 = .ref a16 := (congrFun emf_78 16).symm.trans ((va_up_ne _ _ (by decide)).trans v_16)
                have v_17 : mf_78 17 = .ref a17 := (congrFun emf_78 17).symm.trans ((va_up_ne _ _ (by decide)).trans v_17)
                have v_18 : mf_78 18 = .int 0 := (congrFun emf_78 18).symm.trans ((va_up_ne _ _ (by decide)).trans v_18)
                have v_19 : mf_78 19 = .long 0 := (congrFun emf_78 19).symm.trans ((va_up_ne _ _ (by decide)).trans v_19)
                have v_20 : mf_78 20 = .long (lN (((fv i2) * (rr ((e1 * 40 + rate) * 5 + 4))) * 1000000)) := (congrFun emf_78 20).symm.trans (va_up_self _ _ _)
                generalize eh_79 : fU h_76 x (40, 0, .inr (8, mo mf_78)) = h_79 at hI
                have hX := hX.set (e := .inr (8, mo mf_78)) g_x (by decide); rw [eh_79] at hX
                have hF := hF.set (e := .inr (8, mo mf_78)) g_x (by decide); rw [eh_79] at hF
                have g_a15 : h_79 a15 = some (56, 0, .inl ((G.2.1 0), 5, .inl (fun i => nI (sl i)))) := (congrFun eh_79 a15).symm.trans (fU_keep g_a15 (f_neR g_a15 g_x (by decide)))
                have g_a16 : h_79 a16 = some (57, 0, .inl ((G.2.1 0), 5, .inl (fun i => nI (sr i)))) := (congrFun eh_79 a16).symm.trans (fU_keep g_a16 (f_neR g_a16 g_x (by decide)))
                have g_a17 : h_79 a17 = some (58, 0, .inl ((G.2.1 1), 5, .inr (.inl (fun i => lN (sc i))))) := (congrFun eh_79 a17).symm.trans (fU_keep g_a17 (f_neR g_a17 g_x (by decide)))
                have g_a11 : h_79 a11 = some (52, 0, .inl ((G.2.1 1), 300, .inr (.inl (fun i => lN (fv i))))) := (congrFun eh_79 a11).symm.trans (fU_keep g_a11 (f_neR g_a11 g_x (by decide)))
                have hW9 : fF (inR [40]) h_76 h_79 := by rw [← eh_79]; exact fF.rf.set g_x (by decide)
                have g_x : h_79 x = some (40, 0, .inr (8, mo mf_78)) := (congrFun eh_79 x).symm.trans (fU_self _ _ _)
                have hFc := mFc.keep (mf' := mf_78) hFc (fun j h1 h2 => (congrFun emf_78 j).symm.trans (va_up_ne _ _ (ne_out h1 h2 (by decide)))) hW9 (by decide)
                have hEd := mEd.keep (mf' := mf_78) hEd (fun j h1 h2 => (congrFun emf_78 j).symm.trans (va_up_ne _ _ (ne_out h1 h2 (by decide)))) hW9 (by decide)
                have hm1 : ∀ j, j < 14 ∨ 20 < j → mf_78 j = mf j := fun j hj => (congrFun emf_78 j).symm.trans ((va_up_ne _ _ (ne_rng hj (by decide))).trans (hm1 j hj))
                refine lv_aload_n hx hb d_MO_reckon_223 rfl (lv_at hl 8 rfl) ?_
                refine lv_iconst (v := 0) hx hb d_MO_reckon_224 (by decide) ?_
                refine lv_iload hx hb d_MO_reckon_225 (lv_at hl 3 rfl) ?_
                have hz8 := hI.2.2.2.1
                refine f_callv hI (f_runV C hI (c_MO_step l G h_79 _ x 0 rate mf_78 g_x _ (0) sl sr sc _ _ ⟨a15, a16, a17, ⟨v_14, v_15, v_16, v_17, v_18, v_19, v_20⟩, ⟨g_a15, g_a16, g_a17⟩⟩ (by omega) (by omega)) gm_MO_step w_1040 p_MO_step w_1038 g_x rfl rfl rfl hl.1 rfl (Nat.le_of_ble_eq_true rfl) ⟨Nat.le_of_ble_eq_true rfl, Nat.le_of_ble_eq_true rfl⟩ d_MO_reckon_227 ⟨Nat.le_of_ble_eq_true rfl, Nat.le_of_ble_eq_true rfl⟩) (fun h9 H9 locs hp9 hX9 hz9 hI => ?_)
                obtain ⟨mf_81, g_x, hm9, hSt, hF9⟩ := hp9
                have hFc := hFc.keep (fun j h1 h2 => hm9 j (ne_out h1 h2 (by decide))) hF9 (by decide)
                have hEd := hEd.keep (fun j h1 h2 => hm9 j (ne_out h1 h2 (by decide))) hF9 (by decide)
                have hm1 : ∀ j, j < 14 ∨ 20 < j → mf_81 j = mf j := fun j hj => (hm9 j (ne_rng hj (by decide))).trans (hm1 j hj)
                have hF := hF.tr hF9
                have hX := fX.tr (by omega) hX hX9
                have h3 : ¬ ((mF rr rm e1 1 (fv i0) 0).isSome = true ∧ ((mK nf fl fk fd fw fv lot day on) 3).isNone = true) := fun q => by have h4 := q.1; unfold mF at h4; rw [eS] at h4; cases h4
                have hrk : rk (mK nf fl fk fd fw fv lot day on) (mE ne ef rr rm day) = (-1, rkS (mK nf fl fk fd fw fv lot day on) (mF rr rm e1) (mV rr e1) (fv i0) (fv i2) rate) := by rw [hed]; show rkE _ _ _ = _; unfold rkE; simp only [hK0, hK1, hK2]; rw [show mF rr rm e1 0 (fv i0) (fv i1) = some rate from eR]; exact if_neg h3
                refine JB e1 (fv i0) (fv i2) rate (rr ((e1 * 40 + rate) * 5 + 4)) be hg0 hg2 hrt.2.2 _ mf_81 (sA (fv i2) (rr ((e1 * 40 + rate) * 5 + 4)) rate) _ _ g_x hFc hEd ?_ hm1 hF hX hI hrk ⟨Nat.le_refl 1, rfl, rfl, h3⟩ ls ?_
                · exact ⟨va_up sl 0 0, va_up sr 0 rate, va_up sc 0 ((((fv i2) * (rr ((e1 * 40 + rate) * 5 + 4))) * 1000000) / CT), hSt, mSd.add (L := []) (fun i q hi => by simp at hi) 0 rate _⟩
                rw [eS, ek3, bI_k (by omega)]
                exact lv_sub hl [8, 9, 10, 11, 7, 6, 4, 3, 2, 1, 0] rfl
            · obtain ⟨-, r2, r3⟩ := ff_in eS
              have hrmS := brm e1
              refine lv_istore (lv' := [(14, .int (nI r)), (13, .int (nI rate)), (11, .long (lN (fv i2))), (9, .long (lN (fv i1))), (7, .long (lN (fv i0))), (6, .int (nI e1)), (0, .ref x), (1, .int (nI lot)), (2, .long (lN day)), (4, .long (lN on))]) hx hb d_MO_reckon_144 hl (by decide) rfl (fun ls hl => ?_)
              refine lv_aload_n hx hb d_MO_reckon_146 rfl (lv_at hl 6 rfl) ?_
              refine lv_iload_n hx hb d_MO_reckon_147 rfl (lv_at hl 7 rfl) ?_
              refine lv_iconst (v := 3) hx hb d_MO_reckon_148 (by decide) ?_
              refine lv_lload_n hx hb d_MO_reckon_149 rfl (lv_at hl 8 rfl) ?_
              refine lv_lload hx hb d_MO_reckon_150 (lv_at hl 9 rfl) ?_
              refine f_calli hI (f_runV C hI (c_MO_holds l G h_28 _ x nf lot 3 day on fl fk fd fw fv mf_27 g_x hFc bl31 (by decide) bd31 bo31) gm_MO_holds w_1028 p_MO_holds w_1026 g_x rfl rfl rfl hl.1 rfl (Nat.le_of_ble_eq_true rfl) ⟨Nat.le_of_ble_eq_true rfl, Nat.le_of_ble_eq_true rfl⟩ d_MO_reckon_152 ⟨Nat.le_of_ble_eq_true rfl, Nat.le_of_ble_eq_true rfl⟩) (fun r_82 h8 H9 locs hp9 hX9 hz9 hI => ?_)
              obtain ⟨rfl, e9⟩ := hp9
              rw [e9] at hI
              clear hX9 e9
              rcases hk_ix (fl := fl) (fk := fk) (fd := fd) (fw := fw) (lot := lot) (kind := 3) (day := day) (on := on) nf with ek3 | ⟨i3, hi3, ek3, hh3⟩
              · rw [ek3, bI_0]
                have hK3 : (mK nf fl fk fd fw fv lot day on) 3 = none := by show kv fv (hk fl fk fd fw lot 3 day on nf) = _; rw [ek3]; rfl
                refine lv_istore (lv' := [(15, .int (-1)), (14, .int (nI r)), (13, .int (nI rate)), (11, .long (lN (fv i2))), (9, .long (lN (fv i1))), (7, .long (lN (fv i0))), (6, .int (nI e1)), (0, .ref x), (1, .int (nI lot)), (2, .long (lN day)), (4, .long (lN on))]) hx hb d_MO_reckon_155 hl (by decide) rfl (fun ls hl => ?_)
                refine lv_aload_n hx hb d_MO_reckon_157 rfl (lv_at hl 7 rfl) ?_
                refine lv_iload hx hb d_MO_reckon_158 (lv_at hl 2 rfl) ?_
                refine lv_iconst (v := (-1)) hx hb d_MO_reckon_160 (by decide) ?_
                refine lv_icmp_ne (tgt := 169) hx hb d_MO_reckon_161 (by decide) (fun c_83 => ?_) (fun c_83 => absurd c_83 (n_m1 (by omega)))
                refine lv_iconst (v := 3) hx hb d_MO_reckon_169 (by decide) ?_
                refine f_put (C := "DutyRulesModel") (T := T_MO) (N := 40) (fs' := mo (va_up mf_27 14 (.int 3))) (v := .int 3) hx hb (fun w q => hT w (s_MO w q)) t_MO k_MO n_MO hown hK hI g_x (by decide) rfl 14 (by decide) (hT _ w_823) (fun _ q => q) rfl rfl rfl (by rw [mo_len]; decide) (mo_set _) d_MO_reckon_170 (fun H locs hI => ?_)
                generalize emf_84 : va_up mf_27 14 (.int 3) = mf_84 at hI
                have v_11 : mf_84 11 = .ref a11 := (congrFun emf_84 11).symm.trans ((va_up_ne _ _ (by decide)).trans v_11)
                have v_15 : mf_84 15 = .ref a15 := (congrFun emf_84 15).symm.trans ((va_up_ne _ _ (by decide)).trans v_15)
                have v_16 : mf_84 16 = .ref a16 := (congrFun emf_84 16).symm.trans ((va_up_ne _ _ (by decide)).trans v_16)
                have v_17 : mf_84 17 = .ref a17 := (congrFun emf_84 17).symm.trans ((va_up_ne _ _ (by decide)).trans v_17)
                have v_18 : mf_84 18 = .int 0 := (congrFun emf_84 18).symm.trans ((va_up_ne _ _ (by decide)).trans v_18)
                have v_19 : mf_84 19 = .long 0 := (congrFun emf_84 19).symm.trans ((va_up_ne _ _ (by decide)).trans v_19)
                have v_20 : mf_84 20 = .long 0 := (congrFun emf_84 20).symm.trans ((va_up_ne _ _ (by decide)).trans v_20)
                have v_14 : mf_84 14 = .int 3 := (congrFun emf_84 14).symm.trans (va_up_self _ _ _)
                generalize eh_85 : fU h_28 x (40, 0, .inr (8, mo mf_84)) = h_85 at hI
                have hX := hX.set (e := .inr (8, mo mf_84)) g_x (by decide); rw [eh_85] at hX
                have hF := hF.set (e := .inr (8, mo mf_84)) g_x (by decide); rw [eh_85] at hF
                have g_a15 : h_85 a15 = some (56, 0, .inl ((G.2.1 0), 5, .inl (fun i => nI (sl i)))) := (congrFun eh_85 a15).symm.trans (fU_keep g_a15 (f_neR g_a15 g_x (by decide)))
                have g_a16 : h_85 a16 = some (57, 0, .inl ((G.2.1 0), 5, .inl (fun i => nI (sr i)))) := (congrFun eh_85 a16).symm.trans (fU_keep g_a16 (f_neR g_a16 g_x (by decide)))
                have g_a17 : h_85 a17 = some (58, 0, .inl ((G.2.1 1), 5, .inr (.inl (fun i => lN (sc i))))) := (congrFun eh_85 a17).symm.trans (fU_keep g_a17 (f_neR g_a17 g_x (by decide)))
                have g_a11 : h_85 a11 = some (52, 0, .inl ((G.2.1 1), 300, .inr (.inl (fun i => lN (fv i))))) := (congrFun eh_85 a11).symm.trans (fU_keep g_a11 (f_neR g_a11 g_x (by decide)))
                have hW9 : fF (inR [40]) h_28 h_85 := by rw [← eh_85]; exact fF.rf.set g_x (by decide)
                have g_x : h_85 x = some (40, 0, .inr (8, mo mf_84)) := (congrFun eh_85 x).symm.trans (fU_self _ _ _)
                have hFc := mFc.keep (mf' := mf_84) hFc (fun j h1 h2 => (congrFun emf_84 j).symm.trans (va_up_ne _ _ (ne_out h1 h2 (by decide)))) hW9 (by decide)
                have hEd := mEd.keep (mf' := mf_84) hEd (fun j h1 h2 => (congrFun emf_84 j).symm.trans (va_up_ne _ _ (ne_out h1 h2 (by decide)))) hW9 (by decide)
                have hm1 : ∀ j, j < 14 ∨ 20 < j → mf_84 j = mf j := fun j hj => (congrFun emf_84 j).symm.trans ((va_up_ne _ _ (ne_rng hj (by decide))).trans (hm1 j hj))
                refine lv_iload hx hb d_MO_reckon_173 (lv_at hl 2 rfl) ?_
                refine lv_iconst (v := (-1)) hx hb d_MO_reckon_175 (by decide) ?_
                refine lv_icmp_eq (tgt := 191) hx hb d_MO_reckon_176 (by decide) (fun c_86 => absurd c_86 (n_m1 (by omega))) (fun c_86 => ?_)
                refine lv_iload hx hb d_MO_reckon_179 (lv_at hl 1 rfl) ?_
                refine lv_iconst (v := (-1)) hx hb d_MO_reckon_181 (by decide) ?_
                refine lv_icmp_eq (tgt := 193) hx hb d_MO_reckon_182 (by decide) (fun c_87 => absurd c_87 (n_m1 (by omega))) (fun c_87 => ?_)
                refine lv_iload hx hb d_MO_reckon_185 (lv_at hl 0 rfl) ?_
                refine lv_iconst (v := (-1)) hx hb d_MO_reckon_187 (by decide) ?_
                refine lv_icmp_ne (tgt := 193) hx hb d_MO_reckon_188 (by decide) (fun c_88 => absurd rfl c_88) (fun c_88 => ?_)
                refine lv_iconst (v := 0) hx hb d_MO_reckon_191 (by decide) ?_
                have hrk : rk (mK nf fl fk fd fw fv lot day on) (mE ne ef rr rm day) = (3, d0) := by rw [hed]; show rkE _ _ _ = _; unfold rkE; simp only [hK0, hK1, hK2]; rw [show mF rr rm e1 0 (fv i0) (fv i1) = some rate from eR]; exact if_pos ⟨by unfold mF; rw [eS]; rfl, by rw [hK3]; rfl⟩
                exact f_zret C hr rfl hI ⟨by rw [hrk]; rfl, mf_84, g_x, hm1, by rw [hrk]; exact ⟨sl, sr, sc, ⟨a15, a16, a17, ⟨v_14, v_15, v_16, v_17, v_18, v_19, v_20⟩, ⟨g_a15, g_a16, g_a17⟩⟩, fun i q hi => by simp [d0] at hi⟩, hF⟩ hX (Nat.le_refl _) (Nat.le_refl _) d_MO_reckon_192
              · rw [ek3, bI_k (by omega)]
                have hK3 : (mK nf fl fk fd fw fv lot day on) 3 = some (fv i3) := by show kv fv (hk fl fk fd fw lot 3 day on nf) = _; rw [ek3]; exact kv_k (by omega)
                have bi3 : i3 < 300 := by omega
                refine lv_istore (lv' := [(15, .int (nI i3)), (14, .int (nI r)), (13, .int (nI rate)), (11, .long (lN (fv i2))), (9, .long (lN (fv i1))), (7, .long (lN (fv i0))), (6, .int (nI e1)), (0, .ref x), (1, .int (nI lot)), (2, .long (lN day)), (4, .long (lN on))]) hx hb d_MO_reckon_155 hl (by decide) rfl (fun ls hl => ?_)
                refine lv_aload_n hx hb d_MO_reckon_157 rfl (lv_at hl 7 rfl) ?_
                refine lv_iload hx hb d_MO_reckon_158 (lv_at hl 2 rfl) ?_
                refine lv_iconst (v := (-1)) hx hb d_MO_reckon_160 (by decide) ?_
                refine lv_icmp_ne (tgt := 169) hx hb d_MO_reckon_161 (by decide) (fun c_89 => ?_) (fun c_89 => absurd c_89 (n_m1 (by omega)))
                refine lv_iconst (v := 3) hx hb d_MO_reckon_169 (by decide) ?_
                refine f_put (C := "DutyRulesModel") (T := T_MO) (N := 40) (fs' := mo (va_up mf_27 14 (.int 3))) (v := .int 3) hx hb (fun w q => hT w (s_MO w q)) t_MO k_MO n_MO hown hK hI g_x (by decide) rfl 14 (by decide) (hT _ w_823) (fun _ q => q) rfl rfl rfl (by rw [mo_len]; decide) (mo_set _) d_MO_reckon_170 (fun H locs hI => ?_)
                generalize emf_90 : va_up mf_27 14 (.int 3) = mf_90 at hI
                have v_11 : mf_90 11 = .ref a11 := (congrFun emf_90 11).symm.trans ((va_up_ne _ _ (by decide)).trans v_11)
                have v_15 : mf_90 15 = .ref a15 := (congrFun emf_90 15).symm.trans ((va_up_ne _ _ (by decide)).trans v_15)
                have v_16 : mf_90 16 = .ref a16 := (congrFun emf_90 16).symm.trans ((va_up_ne _ _ (by decide)).trans v_16)
                have v_17 : mf_90 17 = .ref a17 := (congrFun emf_90 17).symm.trans ((va_up_ne _ _ (by decide)).trans v_17)
                have v_18 : mf_90 18 = .int 0 := (congrFun emf_90 18).symm.trans ((va_up_ne _ _ (by decide)).trans v_18)
                have v_19 : mf_90 19 = .long 0 := (congrFun emf_90 19).symm.trans ((va_up_ne _ _ (by decide)).trans v_19)
                have v_20 : mf_90 20 = .long 0 := (congrFun emf_90 20).symm.trans ((va_up_ne _ _ (by decide)).trans v_20)
                have v_14 : mf_90 14 = .int 3 := (congrFun emf_90 14).symm.trans (va_up_self _ _ _)
                generalize eh_91 : fU h_28 x (40, 0, .inr (8, mo mf_90)) = h_91 at hI
                have hX := hX.set (e := .inr (8, mo mf_90)) g_x (by decide); rw [eh_91] at hX
                have hF := hF.set (e := .inr (8, mo mf_90)) g_x (by decide); rw [eh_91] at hF
                have g_a15 : h_91 a15 = some (56, 0, .inl ((G.2.1 0), 5, .inl (fun i => nI (sl i)))) := (congrFun eh_91 a15).symm.trans (fU_keep g_a15 (f_neR g_a15 g_x (by decide)))
                have g_a16 : h_91 a16 = some (57, 0, .inl ((G.2.1 0), 5, .inl (fun i => nI (sr i)))) := (congrFun eh_91 a16).symm.trans (fU_keep g_a16 (f_neR g_a16 g_x (by decide)))
                have g_a17 : h_91 a17 = some (58, 0, .inl ((G.2.1 1), 5, .inr (.inl (fun i => lN (sc i))))) := (congrFun eh_91 a17).symm.trans (fU_keep g_a17 (f_neR g_a17 g_x (by decide)))
                have g_a11 : h_91 a11 = some (52, 0, .inl ((G.2.1 1), 300, .inr (.inl (fun i => lN (fv i))))) := (congrFun eh_91 a11).symm.trans (fU_keep g_a11 (f_neR g_a11 g_x (by decide)))
                have hW9 : fF (inR [40]) h_28 h_91 := by rw [← eh_91]; exact fF.rf.set g_x (by decide)
                have g_x : h_91 x = some (40, 0, .inr (8, mo mf_90)) := (congrFun eh_91 x).symm.trans (fU_self _ _ _)
                have hFc := mFc.keep (mf' := mf_90) hFc (fun j h1 h2 => (congrFun emf_90 j).symm.trans (va_up_ne _ _ (ne_out h1 h2 (by decide)))) hW9 (by decide)
                have hEd := mEd.keep (mf' := mf_90) hEd (fun j h1 h2 => (congrFun emf_90 j).symm.trans (va_up_ne _ _ (ne_out h1 h2 (by decide)))) hW9 (by decide)
                have hm1 : ∀ j, j < 14 ∨ 20 < j → mf_90 j = mf j := fun j hj => (congrFun emf_90 j).symm.trans ((va_up_ne _ _ (ne_rng hj (by decide))).trans (hm1 j hj))
                refine lv_iload hx hb d_MO_reckon_173 (lv_at hl 2 rfl) ?_
                refine lv_iconst (v := (-1)) hx hb d_MO_reckon_175 (by decide) ?_
                refine lv_icmp_eq (tgt := 191) hx hb d_MO_reckon_176 (by decide) (fun c_92 => absurd c_92 (n_m1 (by omega))) (fun c_92 => ?_)
                refine lv_iload hx hb d_MO_reckon_179 (lv_at hl 1 rfl) ?_
                refine lv_iconst (v := (-1)) hx hb d_MO_reckon_181 (by decide) ?_
                refine lv_icmp_eq (tgt := 193) hx hb d_MO_reckon_182 (by decide) (fun c_93 => absurd c_93 (n_m1 (by omega))) (fun c_93 => ?_)
                refine lv_iload hx hb d_MO_reckon_185 (lv_at hl 0 rfl) ?_
                refine lv_iconst (v := (-1)) hx hb d_MO_reckon_187 (by decide) ?_
                refine lv_icmp_ne (tgt := 193) hx hb d_MO_reckon_188 (by decide) (fun c_94 => ?_) (fun c_94 => absurd c_94 (n_m1 (by omega)))
                refine lv_aload_n hx hb d_MO_reckon_193 rfl (lv_at hl 7 rfl) ?_
                refine lv_iconst (v := (-1)) hx hb d_MO_reckon_194 (by decide) ?_
                refine f_put (C := "DutyRulesModel") (T := T_MO) (N := 40) (fs' := mo (va_up mf_90 14 (.int (-1)))) (v := .int (-1)) hx hb (fun w q => hT w (s_MO w q)) t_MO k_MO n_MO hown hK hI g_x (by decide) rfl 14 (by decide) (hT _ w_823) (fun _ q => q) rfl rfl rfl (by rw [mo_len]; decide) (mo_set _) d_MO_reckon_195 (fun H locs hI => ?_)
                generalize emf_95 : va_up mf_90 14 (.int (-1)) = mf_95 at hI
                have v_11 : mf_95 11 = .ref a11 := (congrFun emf_95 11).symm.trans ((va_up_ne _ _ (by decide)).trans v_11)
                have v_15 : mf_95 15 = .ref a15 := (congrFun emf_95 15).symm.trans ((va_up_ne _ _ (by decide)).trans v_15)
                have v_16 : mf_95 16 = .ref a16 := (congrFun emf_95 16).symm.trans ((va_up_ne _ _ (by decide)).trans v_16)
                have v_17 : mf_95 17 = .ref a17 := (congrFun emf_95 17).symm.trans ((va_up_ne _ _ (by decide)).trans v_17)
                have v_18 : mf_95 18 = .int 0 := (congrFun emf_95 18).symm.trans ((va_up_ne _ _ (by decide)).trans v_18)
                have v_19 : mf_95 19 = .long 0 := (congrFun emf_95 19).symm.trans ((va_up_ne _ _ (by decide)).trans v_19)
                have v_20 : mf_95 20 = .long 0 := (congrFun emf_95 20).symm.trans ((va_up_ne _ _ (by decide)).trans v_20)
                have v_14 : mf_95 14 = .int (-1) := (congrFun emf_95 14).symm.trans (va_up_self _ _ _)
                generalize eh_96 : fU h_91 x (40, 0, .inr (8, mo mf_95)) = h_96 at hI
                have hX := hX.set (e := .inr (8, mo mf_95)) g_x (by decide); rw [eh_96] at hX
                have hF := hF.set (e := .inr (8, mo mf_95)) g_x (by decide); rw [eh_96] at hF
                have g_a15 : h_96 a15 = some (56, 0, .inl ((G.2.1 0), 5, .inl (fun i => nI (sl i)))) := (congrFun eh_96 a15).symm.trans (fU_keep g_a15 (f_neR g_a15 g_x (by decide)))
                have g_a16 : h_96 a16 = some (57, 0, .inl ((G.2.1 0), 5, .inl (fun i => nI (sr i)))) := (congrFun eh_96 a16).symm.trans (fU_keep g_a16 (f_neR g_a16 g_x (by decide)))
                have g_a17 : h_96 a17 = some (58, 0, .inl ((G.2.1 1), 5, .inr (.inl (fun i => lN (sc i))))) := (congrFun eh_96 a17).symm.trans (fU_keep g_a17 (f_neR g_a17 g_x (by decide)))
                have g_a11 : h_96 a11 = some (52, 0, .inl ((G.2.1 1), 300, .inr (.inl (fun i => lN (fv i))))) := (congrFun eh_96 a11).symm.trans (fU_keep g_a11 (f_neR g_a11 g_x (by decide)))
                have hW9 : fF (inR [40]) h_91 h_96 := by rw [← eh_96]; exact fF.rf.set g_x (by decide)
                have g_x : h_96 x = some (40, 0, .inr (8, mo mf_95)) := (congrFun eh_96 x).symm.trans (fU_self _ _ _)
                have hFc := mFc.keep (mf' := mf_95) hFc (fun j h1 h2 => (congrFun emf_95 j).symm.trans (va_up_ne _ _ (ne_out h1 h2 (by decide)))) hW9 (by decide)
                have hEd := mEd.keep (mf' := mf_95) hEd (fun j h1 h2 => (congrFun emf_95 j).symm.trans (va_up_ne _ _ (ne_out h1 h2 (by decide)))) hW9 (by decide)
                have hm1 : ∀ j, j < 14 ∨ 20 < j → mf_95 j = mf j := fun j hj => (congrFun emf_95 j).symm.trans ((va_up_ne _ _ (ne_rng hj (by decide))).trans (hm1 j hj))
                refine lv_aload_n hx hb d_MO_reckon_198 rfl (lv_at hl 7 rfl) ?_
                refine lv_iload hx hb d_MO_reckon_199 (lv_at hl 6 rfl) ?_
                refine lv_iload hx hb d_MO_reckon_201 (lv_at hl 2 rfl) ?_
                refine lv_iconst (v := 4) hx hb d_MO_reckon_203 (by decide) ?_
                refine f_calli hI (f_runV C hI (c_MO_value l G h_96 _ x e1 rate 4 mf_95 g_x ne ef rr rm hEd (by omega) (by omega) (by omega)) gm_MO_value w_1036 p_MO_value w_1034 g_x rfl rfl rfl hl.1 rfl (Nat.le_of_ble_eq_true rfl) ⟨Nat.le_of_ble_eq_true rfl, Nat.le_of_ble_eq_true rfl⟩ d_MO_reckon_204 ⟨Nat.le_of_ble_eq_true rfl, Nat.le_of_ble_eq_true rfl⟩) (fun r_97 h8 H9 locs hp9 hX9 hz9 hI => ?_)
                obtain ⟨rfl, e9⟩ := hp9
                rw [e9] at hI
                clear hX9 e9
                refine lv_i2l (v := lN (rr ((e1 * 40 + rate) * 5 + 4))) hx hb d_MO_reckon_207 (n_i2l (by have := brr ((e1 * 40 + rate) * 5 + 4); omega)) ?_
                refine lv_lstore (lv' := [(16, .long (lN (rr ((e1 * 40 + rate) * 5 + 4)))), (15, .int (nI i3)), (14, .int (nI r)), (13, .int (nI rate)), (11, .long (lN (fv i2))), (9, .long (lN (fv i1))), (7, .long (lN (fv i0))), (6, .int (nI e1)), (0, .ref x), (1, .int (nI lot)), (2, .long (lN day)), (4, .long (lN on))]) hx hb d_MO_reckon_208 hl (by decide) rfl (fun ls hl => ?_)
                refine lv_aload_n hx hb d_MO_reckon_210 rfl (lv_at hl 8 rfl) ?_
                refine lv_lload hx hb d_MO_reckon_211 (lv_at hl 4 rfl) ?_
                refine lv_lload hx hb d_MO_reckon_213 (lv_at hl 0 rfl) ?_
                refine lv_lmul hx hb d_MO_reckon_215 ?_
                refine f_asl (lN_mul (fv i2) (rr ((e1 * 40 + rate) * 5 + 4))) ?_
                refine lv_ldc2 (v := 1000000) hx hb hown (hT _ w_1008) d_MO_reckon_216 ?_
                refine lv_lmul hx hb d_MO_reckon_219 ?_
                refine f_asl (lN_mul ((fv i2) * (rr ((e1 * 40 + rate) * 5 + 4))) 1000000) ?_
                refine f_put (C := "DutyRulesModel") (T := T_MO) (N := 40) (fs' := mo (va_up mf_95 20 (.long (lN (((fv i2) * (rr ((e1 * 40 + rate) * 5 + 4))) * 1000000))))) (v := .long (lN (((fv i2) * (rr ((e1 * 40 + rate) * 5 + 4))) * 1000000))) hx hb (fun w q => hT w (s_MO w q)) t_MO k_MO n_MO hown hK hI g_x (by decide) rfl 20 (by decide) (hT _ w_829) (fun _ q => q) rfl rfl rfl (by rw [mo_len]; decide) (mo_set _) d_MO_reckon_220 (fun H locs hI => ?_)
                generalize emf_98 : va_up mf_95 20 (.long (lN (((fv i2) * (rr ((e1 * 40 + rate) * 5 + 4))) * 1000000))) = mf_98 at hI
                have v_11 : mf_98 11 = .ref a11 := (congrFun emf_98 11).symm.trans ((va_up_ne _ _ (by decide)).trans v_11)
                have v_14 : mf_98 14 = .int (-1) := (congrFun emf_98 14).symm.trans ((va_up_ne _ _ (by decide)).trans v_14)
                have v_15 : mf_98 15 = .ref a15 := (congrFun emf_98 15).symm.trans ((va_up_ne _ _ (by decide)).trans v_15)
                have v_16 : mf_98 16 = .ref a16 := (congrFun emf_98 16).symm.trans ((va_up_ne _ _ (by decide)).trans v_16)
                have v_17 : mf_98 17 = .ref a17 := (congrFun emf_98 17).symm.trans ((va_up_ne _ _ (by decide)).trans v_17)
                have v_18 : mf_98 18 = .int 0 := (congrFun emf_98 18).symm.trans ((va_up_ne _ _ (by decide)).trans v_18)
                have v_19 : mf_98 19 = .long 0 := (congrFun emf_98 19).symm.trans ((va_up_ne _ _ (by decide)).trans v_19)
                have v_20 : mf_98 20 = .long (lN (((fv i2) * (rr ((e1 * 40 + rate) * 5 + 4))) * 1000000)) := (congrFun emf_98 20).symm.trans (va_up_self _ _ _)
                generalize eh_99 : fU h_96 x (40, 0, .inr (8, mo mf_98)) = h_99 at hI
                have hX := hX.set (e := .inr (8, mo mf_98)) g_x (by decide); rw [eh_99] at hX
                have hF := hF.set (e := .inr (8, mo mf_98)) g_x (by decide); rw [eh_99] at hF
                have g_a15 : h_99 a15 = some (56, 0, .inl ((G.2.1 0), 5, .inl (fun i => nI (sl i)))) := (congrFun eh_99 a15).symm.trans (fU_keep g_a15 (f_neR g_a15 g_x (by decide)))
                have g_a16 : h_99 a16 = some (57, 0, .inl ((G.2.1 0), 5, .inl (fun i => nI (sr i)))) := (congrFun eh_99 a16).symm.trans (fU_keep g_a16 (f_neR g_a16 g_x (by decide)))
                have g_a17 : h_99 a17 = some (58, 0, .inl ((G.2.1 1), 5, .inr (.inl (fun i => lN (sc i))))) := (congrFun eh_99 a17).symm.trans (fU_keep g_a17 (f_neR g_a17 g_x (by decide)))
                have g_a11 : h_99 a11 = some (52, 0, .inl ((G.2.1 1), 300, .inr (.inl (fun i => lN (fv i))))) := (congrFun eh_99 a11).symm.trans (fU_keep g_a11 (f_neR g_a11 g_x (by decide)))
                have hW9 : fF (inR [40]) h_96 h_99 := by rw [← eh_99]; exact fF.rf.set g_x (by decide)
                have g_x : h_99 x = some (40, 0, .inr (8, mo mf_98)) := (congrFun eh_99 x).symm.trans (fU_self _ _ _)
                have hFc := mFc.keep (mf' := mf_98) hFc (fun j h1 h2 => (congrFun emf_98 j).symm.trans (va_up_ne _ _ (ne_out h1 h2 (by decide)))) hW9 (by decide)
                have hEd := mEd.keep (mf' := mf_98) hEd (fun j h1 h2 => (congrFun emf_98 j).symm.trans (va_up_ne _ _ (ne_out h1 h2 (by decide)))) hW9 (by decide)
                have hm1 : ∀ j, j < 14 ∨ 20 < j → mf_98 j = mf j := fun j hj => (congrFun emf_98 j).symm.trans ((va_up_ne _ _ (ne_rng hj (by decide))).trans (hm1 j hj))
                refine lv_aload_n hx hb d_MO_reckon_223 rfl (lv_at hl 8 rfl) ?_
                refine lv_iconst (v := 0) hx hb d_MO_reckon_224 (by decide) ?_
                refine lv_iload hx hb d_MO_reckon_225 (lv_at hl 3 rfl) ?_
                have hz8 := hI.2.2.2.1
                refine f_callv hI (f_runV C hI (c_MO_step l G h_99 _ x 0 rate mf_98 g_x _ (0) sl sr sc _ _ ⟨a15, a16, a17, ⟨v_14, v_15, v_16, v_17, v_18, v_19, v_20⟩, ⟨g_a15, g_a16, g_a17⟩⟩ (by omega) (by omega)) gm_MO_step w_1040 p_MO_step w_1038 g_x rfl rfl rfl hl.1 rfl (Nat.le_of_ble_eq_true rfl) ⟨Nat.le_of_ble_eq_true rfl, Nat.le_of_ble_eq_true rfl⟩ d_MO_reckon_227 ⟨Nat.le_of_ble_eq_true rfl, Nat.le_of_ble_eq_true rfl⟩) (fun h9 H9 locs hp9 hX9 hz9 hI => ?_)
                obtain ⟨mf_101, g_x, hm9, hSt, hF9⟩ := hp9
                have hFc := hFc.keep (fun j h1 h2 => hm9 j (ne_out h1 h2 (by decide))) hF9 (by decide)
                have hEd := hEd.keep (fun j h1 h2 => hm9 j (ne_out h1 h2 (by decide))) hF9 (by decide)
                have hm1 : ∀ j, j < 14 ∨ 20 < j → mf_101 j = mf j := fun j hj => (hm9 j (ne_rng hj (by decide))).trans (hm1 j hj)
                have hF := hF.tr hF9
                have hX := fX.tr (by omega) hX hX9
                have h3 : ¬ ((mF rr rm e1 1 (fv i0) 0).isSome = true ∧ ((mK nf fl fk fd fw fv lot day on) 3).isNone = true) := fun q => by have h4 := q.2; rw [hK3] at h4; cases h4
                have hrk : rk (mK nf fl fk fd fw fv lot day on) (mE ne ef rr rm day) = (-1, rkS (mK nf fl fk fd fw fv lot day on) (mF rr rm e1) (mV rr e1) (fv i0) (fv i2) rate) := by rw [hed]; show rkE _ _ _ = _; unfold rkE; simp only [hK0, hK1, hK2]; rw [show mF rr rm e1 0 (fv i0) (fv i1) = some rate from eR]; exact if_neg h3
                refine JB e1 (fv i0) (fv i2) rate (rr ((e1 * 40 + rate) * 5 + 4)) be hg0 hg2 hrt.2.2 _ mf_101 (sA (fv i2) (rr ((e1 * 40 + rate) * 5 + 4)) rate) _ _ g_x hFc hEd ?_ hm1 hF hX hI hrk ⟨Nat.le_refl 1, rfl, rfl, h3⟩ ls ?_
                · exact ⟨va_up sl 0 0, va_up sr 0 rate, va_up sc 0 ((((fv i2) * (rr ((e1 * 40 + rate) * 5 + 4))) * 1000000) / CT), hSt, mSd.add (L := []) (fun i q hi => by simp at hi) 0 rate _⟩
                rw [eS, ek3, bI_k (by omega)]
                exact lv_sub hl [8, 9, 10, 11, 7, 6, 4, 3, 2, 1, 0] rfl
