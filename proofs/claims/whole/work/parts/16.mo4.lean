set_option maxHeartbeats 4000000 in
set_option maxRecDepth 100000 in
/-- MO_reckon  -/
theorem c_MO_reckon (l : Launch) (G : gG) (h : fH) (sz : Nat) (x lot day on : Nat) (mf : Nat → Value) (g_x : h x = some (40, 0, .inr (8, mo mf))) (nf : Nat) (fl fk fd fw fv : Nat → Nat) (hFc : mFc G h mf nf fl fk fd fw fv) (ne : Nat) (ef rr rm : Nat → Nat) (hEd : mEd G h mf ne ef rr rm) (rs : Int32) (ns : Nat) (sl sr sc : Nat → Nat) (fr ce : Nat) (hSt : mSt G h mf rs ns sl sr sc fr ce) (blot : lot < 30) (bday : day ≤ 100000) (bon : on ≤ 100000) : cM l y_MO_reckon b_MO_reckon 25 (some .boolean) { frames := 1, cells := 0, slots := 0, locals := 29 } G [.ref x, .int (nI lot), .long (lN day), .long (lN on)] h sz (cQi G h sz (fun r h' => r = (if (rk (mK nf fl fk fd fw fv lot day on) (mE ne ef rr rm day)).1 = -1 then 1 else 0) ∧ ∃ mf', h' x = some (40, 0, .inr (8, mo mf')) ∧ (∀ j, j < 14 ∨ 20 < j → mf' j = mf j) ∧ mSd G h' mf' (rk (mK nf fl fk fd fw fv lot day on) (mE ne ef rr rm day)).1 (rk (mK nf fl fk fd fw fv lot day on) (mE ne ef rr rm day)).2 ∧ fF (inR [40, 56, 57, 58]) h h')) := by
  refine f_start (by decide) (Nat.le_of_ble_eq_true rfl) ?_
  intro p e s m below meth c ls C hr hsz hI hl
  obtain ⟨hx, hb, hml, hown, hnm, hlk, hT, hG, hZ⟩ := id C
  have hK := hG.1
  have hX : fX h sz h := fX.rf
  have hl : lv_has ls 25 [(0, .ref x), (1, .int (nI lot)), (2, .long (lN day)), (4, .long (lN on))] := hl
  have hF : fF (inR [40, 56, 57, 58]) h h := fF.rf
  obtain ⟨_, _, _, _, _, bne, brm, bef, brr, brk⟩ := id hEd
  have JB := x_MO_reckon l G h sz x lot day on mf g_x nf fl fk fd fw fv hFc ne ef rr rm hEd rs ns sl sr sc fr ce hSt blot bday bon p e s m below meth c C hr hsz
  have hm1 : ∀ j, j < 14 ∨ 20 < j → mf j = mf j := fun _ _ => rfl
  obtain ⟨a15, a16, a17, ⟨v_14, v_15, v_16, v_17, v_18, v_19, v_20⟩, ⟨g_a15, g_a16, g_a17⟩⟩ := hSt
  obtain ⟨a7, a8, a9, a10, a11, ⟨v_7, v_8, v_9, v_10, v_11, v_12⟩, ⟨g_a7, g_a8, g_a9, g_a10, g_a11⟩, bnf, bfl, bfk, bfd, bfw, bfv0⟩ := id hFc
  have bfv : ∀ i, fv i ≤ 100000000 := fun i => Nat.le_trans (bfv0 i) (mostN_le _)
  rcases en : eo ef day ne with _ | e1
  · have hrk : rk (mK nf fl fk fd fw fv lot day on) (mE ne ef rr rm day) = (20, d0) := by unfold mE; rw [en]; rfl
    refine lv_aload_n hx hb d_MO_reckon_0 rfl (lv_at hl 0 rfl) ?_
    refine lv_iconst (v := 0) hx hb d_MO_reckon_1 (by decide) ?_
    refine f_put (C := "DutyRulesModel") (T := T_MO) (N := 40) (fs' := mo (va_up mf 18 (.int 0))) (v := .int 0) hx hb (fun w q => hT w (s_MO w q)) t_MO k_MO n_MO hown hK hI g_x (by decide) rfl 18 (by decide) (hT _ w_827) (fun _ q => q) rfl rfl rfl (by rw [mo_len]; decide) (mo_set _) d_MO_reckon_2 (fun H locs hI => ?_)
    generalize emf_1 : va_up mf 18 (.int 0) = mf_1 at hI
    have v_11 : mf_1 11 = .ref a11 := by rw [← emf_1, va_up_ne _ _ (by decide)]; exact v_11
    have v_14 : mf_1 14 = .int rs := by rw [← emf_1, va_up_ne _ _ (by decide)]; exact v_14
    have v_15 : mf_1 15 = .ref a15 := by rw [← emf_1, va_up_ne _ _ (by decide)]; exact v_15
    have v_16 : mf_1 16 = .ref a16 := by rw [← emf_1, va_up_ne _ _ (by decide)]; exact v_16
    have v_17 : mf_1 17 = .ref a17 := by rw [← emf_1, va_up_ne _ _ (by decide)]; exact v_17
    have v_19 : mf_1 19 = .long (lN fr) := by rw [← emf_1, va_up_ne _ _ (by decide)]; exact v_19
    have v_20 : mf_1 20 = .long (lN ce) := by rw [← emf_1, va_up_ne _ _ (by decide)]; exact v_20
    have v_18 : mf_1 18 = .int 0 := by rw [← emf_1, va_up_self]
    generalize eh_2 : fU h x (40, 0, .inr (8, mo mf_1)) = h_2 at hI
    have hX := hX.set (e := .inr (8, mo mf_1)) g_x (by decide); rw [eh_2] at hX
    have hF := hF.set (e := .inr (8, mo mf_1)) g_x (by decide); rw [eh_2] at hF
    have g_a15 : h_2 a15 = some (56, 0, .inl ((G.2.1 0), 5, .inl (fun i => nI (sl i)))) := by rw [← eh_2]; exact fU_keep g_a15 (f_neR g_a15 g_x (by decide))
    have g_a16 : h_2 a16 = some (57, 0, .inl ((G.2.1 0), 5, .inl (fun i => nI (sr i)))) := by rw [← eh_2]; exact fU_keep g_a16 (f_neR g_a16 g_x (by decide))
    have g_a17 : h_2 a17 = some (58, 0, .inl ((G.2.1 1), 5, .inr (.inl (fun i => lN (sc i))))) := by rw [← eh_2]; exact fU_keep g_a17 (f_neR g_a17 g_x (by decide))
    have g_a11 : h_2 a11 = some (52, 0, .inl ((G.2.1 1), 300, .inr (.inl (fun i => lN (fv i))))) := by rw [← eh_2]; exact fU_keep g_a11 (f_neR g_a11 g_x (by decide))
    have hW9 : fF (inR [40]) h h_2 := by rw [← eh_2]; exact fF.rf.set g_x (by decide)
    have g_x : h_2 x = some (40, 0, .inr (8, mo mf_1)) := by rw [← eh_2]; exact fU_self _ _ _
    have hFc := mFc.keep (mf' := mf_1) hFc (fun j _ _ => by rw [← emf_1]; exact va_up_ne _ _ (by omega)) hW9 (by decide)
    have hEd := mEd.keep (mf' := mf_1) hEd (fun j _ _ => by rw [← emf_1]; exact va_up_ne _ _ (by omega)) hW9 (by decide)
    have hm1 : ∀ j, j < 14 ∨ 20 < j → mf_1 j = mf j := fun j hj => by rw [← emf_1, va_up_ne _ _ (by omega)]; exact hm1 j hj
    refine lv_aload_n hx hb d_MO_reckon_5 rfl (lv_at hl 0 rfl) ?_
    refine lv_lconst (v := 0) hx hb d_MO_reckon_6 (by decide) ?_
    refine f_put (C := "DutyRulesModel") (T := T_MO) (N := 40) (fs' := mo (va_up mf_1 19 (.long 0))) (v := .long 0) hx hb (fun w q => hT w (s_MO w q)) t_MO k_MO n_MO hown hK hI g_x (by decide) rfl 19 (by decide) (hT _ w_828) (fun _ q => q) rfl rfl rfl (by rw [mo_len]; decide) (mo_set _) d_MO_reckon_7 (fun H locs hI => ?_)
    generalize emf_3 : va_up mf_1 19 (.long 0) = mf_3 at hI
    have v_11 : mf_3 11 = .ref a11 := by rw [← emf_3, va_up_ne _ _ (by decide)]; exact v_11
    have v_14 : mf_3 14 = .int rs := by rw [← emf_3, va_up_ne _ _ (by decide)]; exact v_14
    have v_15 : mf_3 15 = .ref a15 := by rw [← emf_3, va_up_ne _ _ (by decide)]; exact v_15
    have v_16 : mf_3 16 = .ref a16 := by rw [← emf_3, va_up_ne _ _ (by decide)]; exact v_16
    have v_17 : mf_3 17 = .ref a17 := by rw [← emf_3, va_up_ne _ _ (by decide)]; exact v_17
    have v_18 : mf_3 18 = .int 0 := by rw [← emf_3, va_up_ne _ _ (by decide)]; exact v_18
    have v_20 : mf_3 20 = .long (lN ce) := by rw [← emf_3, va_up_ne _ _ (by decide)]; exact v_20
    have v_19 : mf_3 19 = .long 0 := by rw [← emf_3, va_up_self]
    generalize eh_4 : fU h_2 x (40, 0, .inr (8, mo mf_3)) = h_4 at hI
    have hX := hX.set (e := .inr (8, mo mf_3)) g_x (by decide); rw [eh_4] at hX
    have hF := hF.set (e := .inr (8, mo mf_3)) g_x (by decide); rw [eh_4] at hF
    have g_a15 : h_4 a15 = some (56, 0, .inl ((G.2.1 0), 5, .inl (fun i => nI (sl i)))) := by rw [← eh_4]; exact fU_keep g_a15 (f_neR g_a15 g_x (by decide))
    have g_a16 : h_4 a16 = some (57, 0, .inl ((G.2.1 0), 5, .inl (fun i => nI (sr i)))) := by rw [← eh_4]; exact fU_keep g_a16 (f_neR g_a16 g_x (by decide))
    have g_a17 : h_4 a17 = some (58, 0, .inl ((G.2.1 1), 5, .inr (.inl (fun i => lN (sc i))))) := by rw [← eh_4]; exact fU_keep g_a17 (f_neR g_a17 g_x (by decide))
    have g_a11 : h_4 a11 = some (52, 0, .inl ((G.2.1 1), 300, .inr (.inl (fun i => lN (fv i))))) := by rw [← eh_4]; exact fU_keep g_a11 (f_neR g_a11 g_x (by decide))
    have hW9 : fF (inR [40]) h_2 h_4 := by rw [← eh_4]; exact fF.rf.set g_x (by decide)
    have g_x : h_4 x = some (40, 0, .inr (8, mo mf_3)) := by rw [← eh_4]; exact fU_self _ _ _
    have hFc := mFc.keep (mf' := mf_3) hFc (fun j _ _ => by rw [← emf_3]; exact va_up_ne _ _ (by omega)) hW9 (by decide)
    have hEd := mEd.keep (mf' := mf_3) hEd (fun j _ _ => by rw [← emf_3]; exact va_up_ne _ _ (by omega)) hW9 (by decide)
    have hm1 : ∀ j, j < 14 ∨ 20 < j → mf_3 j = mf j := fun j hj => by rw [← emf_3, va_up_ne _ _ (by omega)]; exact hm1 j hj
    refine lv_aload_n hx hb d_MO_reckon_10 rfl (lv_at hl 0 rfl) ?_
    refine lv_lconst (v := 0) hx hb d_MO_reckon_11 (by decide) ?_
    refine f_put (C := "DutyRulesModel") (T := T_MO) (N := 40) (fs' := mo (va_up mf_3 20 (.long 0))) (v := .long 0) hx hb (fun w q => hT w (s_MO w q)) t_MO k_MO n_MO hown hK hI g_x (by decide) rfl 20 (by decide) (hT _ w_829) (fun _ q => q) rfl rfl rfl (by rw [mo_len]; decide) (mo_set _) d_MO_reckon_12 (fun H locs hI => ?_)
    generalize emf_5 : va_up mf_3 20 (.long 0) = mf_5 at hI
    have v_11 : mf_5 11 = .ref a11 := by rw [← emf_5, va_up_ne _ _ (by decide)]; exact v_11
    have v_14 : mf_5 14 = .int rs := by rw [← emf_5, va_up_ne _ _ (by decide)]; exact v_14
    have v_15 : mf_5 15 = .ref a15 := by rw [← emf_5, va_up_ne _ _ (by decide)]; exact v_15
    have v_16 : mf_5 16 = .ref a16 := by rw [← emf_5, va_up_ne _ _ (by decide)]; exact v_16
    have v_17 : mf_5 17 = .ref a17 := by rw [← emf_5, va_up_ne _ _ (by decide)]; exact v_17
    have v_18 : mf_5 18 = .int 0 := by rw [← emf_5, va_up_ne _ _ (by decide)]; exact v_18
    have v_19 : mf_5 19 = .long 0 := by rw [← emf_5, va_up_ne _ _ (by decide)]; exact v_19
    have v_20 : mf_5 20 = .long 0 := by rw [← emf_5, va_up_self]
    generalize eh_6 : fU h_4 x (40, 0, .inr (8, mo mf_5)) = h_6 at hI
    have hX := hX.set (e := .inr (8, mo mf_5)) g_x (by decide); rw [eh_6] at hX
    have hF := hF.set (e := .inr (8, mo mf_5)) g_x (by decide); rw [eh_6] at hF
    have g_a15 : h_6 a15 = some (56, 0, .inl ((G.2.1 0), 5, .inl (fun i => nI (sl i)))) := by rw [← eh_6]; exact fU_keep g_a15 (f_neR g_a15 g_x (by decide))
    have g_a16 : h_6 a16 = some (57, 0, .inl ((G.2.1 0), 5, .inl (fun i => nI (sr i)))) := by rw [← eh_6]; exact fU_keep g_a16 (f_neR g_a16 g_x (by decide))
    have g_a17 : h_6 a17 = some (58, 0, .inl ((G.2.1 1), 5, .inr (.inl (fun i => lN (sc i))))) := by rw [← eh_6]; exact fU_keep g_a17 (f_neR g_a17 g_x (by decide))
    have g_a11 : h_6 a11 = some (52, 0, .inl ((G.2.1 1), 300, .inr (.inl (fun i => lN (fv i))))) := by rw [← eh_6]; exact fU_keep g_a11 (f_neR g_a11 g_x (by decide))
    have hW9 : fF (inR [40]) h_4 h_6 := by rw [← eh_6]; exact fF.rf.set g_x (by decide)
    have g_x : h_6 x = some (40, 0, .inr (8, mo mf_5)) := by rw [← eh_6]; exact fU_self _ _ _
    have hFc := mFc.keep (mf' := mf_5) hFc (fun j _ _ => by rw [← emf_5]; exact va_up_ne _ _ (by omega)) hW9 (by decide)
    have hEd := mEd.keep (mf' := mf_5) hEd (fun j _ _ => by rw [← emf_5]; exact va_up_ne _ _ (by omega)) hW9 (by decide)
    have hm1 : ∀ j, j < 14 ∨ 20 < j → mf_5 j = mf j := fun j hj => by rw [← emf_5, va_up_ne _ _ (by omega)]; exact hm1 j hj
    refine lv_aload_n hx hb d_MO_reckon_15 rfl (lv_at hl 0 rfl) ?_
    refine lv_lload_n hx hb d_MO_reckon_16 rfl (lv_at hl 2 rfl) ?_
    refine f_calli hI (f_runV C hI (c_MO_editionOf l G h_6 _ x day mf_5 g_x ne ef rr rm hEd (by omega)) gm_MO_editionOf w_1024 p_MO_editionOf w_1022 g_x rfl rfl rfl hl.1 rfl (Nat.le_of_ble_eq_true rfl) ⟨Nat.le_of_ble_eq_true rfl, Nat.le_of_ble_eq_true rfl⟩ d_MO_reckon_17 ⟨Nat.le_of_ble_eq_true rfl, Nat.le_of_ble_eq_true rfl⟩) (fun r_7 h9 H9 locs hp9 hX9 hz9 hI => ?_)
    obtain ⟨rfl, e9⟩ := hp9
    rw [e9] at hI
    clear hX9 e9
    rw [en]
    refine lv_istore (lv' := [(6, .int (-1)), (0, .ref x), (1, .int (nI lot)), (2, .long (lN day)), (4, .long (lN on))]) hx hb d_MO_reckon_20 hl (by decide) rfl (fun ls hl => ?_)
    refine lv_aload_n hx hb d_MO_reckon_22 rfl (lv_at hl 1 rfl) ?_
    refine lv_bipush (v := 20) hx hb d_MO_reckon_23 (by decide) ?_
    refine f_put (C := "DutyRulesModel") (T := T_MO) (N := 40) (fs' := mo (va_up mf_5 14 (.int 20))) (v := .int 20) hx hb (fun w q => hT w (s_MO w q)) t_MO k_MO n_MO hown hK hI g_x (by decide) rfl 14 (by decide) (hT _ w_823) (fun _ q => q) rfl rfl rfl (by rw [mo_len]; decide) (mo_set _) d_MO_reckon_25 (fun H locs hI => ?_)
    generalize emf_8 : va_up mf_5 14 (.int 20) = mf_8 at hI
    have v_11 : mf_8 11 = .ref a11 := by rw [← emf_8, va_up_ne _ _ (by decide)]; exact v_11
    have v_15 : mf_8 15 = .ref a15 := by rw [← emf_8, va_up_ne _ _ (by decide)]; exact v_15
    have v_16 : mf_8 16 = .ref a16 := by rw [← emf_8, va_up_ne _ _ (by decide)]; exact v_16
    have v_17 : mf_8 17 = .ref a17 := by rw [← emf_8, va_up_ne _ _ (by decide)]; exact v_17
    have v_18 : mf_8 18 = .int 0 := by rw [← emf_8, va_up_ne _ _ (by decide)]; exact v_18
    have v_19 : mf_8 19 = .long 0 := by rw [← emf_8, va_up_ne _ _ (by decide)]; exact v_19
    have v_20 : mf_8 20 = .long 0 := by rw [← emf_8, va_up_ne _ _ (by decide)]; exact v_20
    have v_14 : mf_8 14 = .int 20 := by rw [← emf_8, va_up_self]
    generalize eh_9 : fU h_6 x (40, 0, .inr (8, mo mf_8)) = h_9 at hI
    have hX := hX.set (e := .inr (8, mo mf_8)) g_x (by decide); rw [eh_9] at hX
    have hF := hF.set (e := .inr (8, mo mf_8)) g_x (by decide); rw [eh_9] at hF
    have g_a15 : h_9 a15 = some (56, 0, .inl ((G.2.1 0), 5, .inl (fun i => nI (sl i)))) := by rw [← eh_9]; exact fU_keep g_a15 (f_neR g_a15 g_x (by decide))
    have g_a16 : h_9 a16 = some (57, 0, .inl ((G.2.1 0), 5, .inl (fun i => nI (sr i)))) := by rw [← eh_9]; exact fU_keep g_a16 (f_neR g_a16 g_x (by decide))
    have g_a17 : h_9 a17 = some (58, 0, .inl ((G.2.1 1), 5, .inr (.inl (fun i => lN (sc i))))) := by rw [← eh_9]; exact fU_keep g_a17 (f_neR g_a17 g_x (by decide))
    have g_a11 : h_9 a11 = some (52, 0, .inl ((G.2.1 1), 300, .inr (.inl (fun i => lN (fv i))))) := by rw [← eh_9]; exact fU_keep g_a11 (f_neR g_a11 g_x (by decide))
    have hW9 : fF (inR [40]) h_6 h_9 := by rw [← eh_9]; exact fF.rf.set g_x (by decide)
    have g_x : h_9 x = some (40, 0, .inr (8, mo mf_8)) := by rw [← eh_9]; exact fU_self _ _ _
    have hFc := mFc.keep (mf' := mf_8) hFc (fun j _ _ => by rw [← emf_8]; exact va_up_ne _ _ (by omega)) hW9 (by decide)
    have hEd := mEd.keep (mf' := mf_8) hEd (fun j _ _ => by rw [← emf_8]; exact va_up_ne _ _ (by omega)) hW9 (by decide)
    have hm1 : ∀ j, j < 14 ∨ 20 < j → mf_8 j = mf j := fun j hj => by rw [← emf_8, va_up_ne _ _ (by omega)]; exact hm1 j hj
    refine lv_iload hx hb d_MO_reckon_28 (lv_at hl 0 rfl) ?_
    refine lv_iconst (v := (-1)) hx hb d_MO_reckon_30 (by decide) ?_
    refine lv_icmp_ne (tgt := 36) hx hb d_MO_reckon_31 (by decide) (fun c_10 => absurd rfl c_10) (fun c_10 => ?_)
    refine lv_iconst (v := 0) hx hb d_MO_reckon_34 (by decide) ?_
    exact f_zret C hr rfl hI ⟨by rw [hrk]; rfl, mf_8, g_x, hm1, by rw [hrk]; exact ⟨sl, sr, sc, ⟨a15, a16, a17, ⟨v_14, v_15, v_16, v_17, v_18, v_19, v_20⟩, ⟨g_a15, g_a16, g_a17⟩⟩, fun i q hi => by simp [d0] at hi⟩, hF⟩ hX (Nat.le_refl _) (Nat.le_refl _) d_MO_reckon_35
  · have hen := eo_lt en
    have be : e1 < 11 := by omega
    have hed : mE ne ef rr rm day = some (mF rr rm e1, mV rr e1) := by unfold mE; rw [en]
    rcases hk_ix (fl := fl) (fk := fk) (fd := fd) (fw := fw) (lot := lot) (kind := 0) (day := day) (on := on) nf with e0 | ⟨i0, hi0, e0, hh0⟩
    · have hK0 : (mK nf fl fk fd fw fv lot day on) 0 = none := by show kv fv (hk fl fk fd fw lot 0 day on nf) = _; rw [e0]; rfl
      have hrk : rk (mK nf fl fk fd fw fv lot day on) (mE ne ef rr rm day) = (0, d0) := by rw [hed]; show rkE _ _ _ = _; unfold rkE; simp only [hK0]
      refine lv_aload_n hx hb d_MO_reckon_0 rfl (lv_at hl 0 rfl) ?_
      refine lv_iconst (v := 0) hx hb d_MO_reckon_1 (by decide) ?_
      refine f_put (C := "DutyRulesModel") (T := T_MO) (N := 40) (fs' := mo (va_up mf 18 (.int 0))) (v := .int 0) hx hb (fun w q => hT w (s_MO w q)) t_MO k_MO n_MO hown hK hI g_x (by decide) rfl 18 (by decide) (hT _ w_827) (fun _ q => q) rfl rfl rfl (by rw [mo_len]; decide) (mo_set _) d_MO_reckon_2 (fun H locs hI => ?_)
      generalize emf_11 : va_up mf 18 (.int 0) = mf_11 at hI
      have v_11 : mf_11 11 = .ref a11 := by rw [← emf_11, va_up_ne _ _ (by decide)]; exact v_11
      have v_14 : mf_11 14 = .int rs := by rw [← emf_11, va_up_ne _ _ (by decide)]; exact v_14
      have v_15 : mf_11 15 = .ref a15 := by rw [← emf_11, va_up_ne _ _ (by decide)]; exact v_15
      have v_16 : mf_11 16 = .ref a16 := by rw [← emf_11, va_up_ne _ _ (by decide)]; exact v_16
      have v_17 : mf_11 17 = .ref a17 := by rw [← emf_11, va_up_ne _ _ (by decide)]; exact v_17
      have v_19 : mf_11 19 = .long (lN fr) := by rw [← emf_11, va_up_ne _ _ (by decide)]; exact v_19
      have v_20 : mf_11 20 = .long (lN ce) := by rw [← emf_11, va_up_ne _ _ (by decide)]; exact v_20
      have v_18 : mf_11 18 = .int 0 := by rw [← emf_11, va_up_self]
      generalize eh_12 : fU h x (40, 0, .inr (8, mo mf_11)) = h_12 at hI
      have hX := hX.set (e := .inr (8, mo mf_11)) g_x (by decide); rw [eh_12] at hX
      have hF := hF.set (e := .inr (8, mo mf_11)) g_x (by decide); rw [eh_12] at hF
      have g_a15 : h_12 a15 = some (56, 0, .inl ((G.2.1 0), 5, .inl (fun i => nI (sl i)))) := by rw [← eh_12]; exact fU_keep g_a15 (f_neR g_a15 g_x (by decide))
      have g_a16 : h_12 a16 = some (57, 0, .inl ((G.2.1 0), 5, .inl (fun i => nI (sr i)))) := by rw [← eh_12]; exact fU_keep g_a16 (f_neR g_a16 g_x (by decide))
      have g_a17 : h_12 a17 = some (58, 0, .inl ((G.2.1 1), 5, .inr (.inl (fun i => lN (sc i))))) := by rw [← eh_12]; exact fU_keep g_a17 (f_neR g_a17 g_x (by decide))
      have g_a11 : h_12 a11 = some (52, 0, .inl ((G.2.1 1), 300, .inr (.inl (fun i => lN (fv i))))) := by rw [← eh_12]; exact fU_keep g_a11 (f_neR g_a11 g_x (by decide))
      have hW9 : fF (inR [40]) h h_12 := by rw [← eh_12]; exact fF.rf.set g_x (by decide)
      have g_x : h_12 x = some (40, 0, .inr (8, mo mf_11)) := by rw [← eh_12]; exact fU_self _ _ _
      have hFc := mFc.keep (mf' := mf_11) hFc (fun j _ _ => by rw [← emf_11]; exact va_up_ne _ _ (by omega)) hW9 (by decide)
      have hEd := mEd.keep (mf' := mf_11) hEd (fun j _ _ => by rw [← emf_11]; exact va_up_ne _ _ (by omega)) hW9 (by decide)
      have hm1 : ∀ j, j < 14 ∨ 20 < j → mf_11 j = mf j := fun j hj => by rw [← emf_11, va_up_ne _ _ (by omega)]; exact hm1 j hj
      refine lv_aload_n hx hb d_MO_reckon_5 rfl (lv_at hl 0 rfl) ?_
      refine lv_lconst (v := 0) hx hb d_MO_reckon_6 (by decide) ?_
      refine f_put (C := "DutyRulesModel") (T := T_MO) (N := 40) (fs' := mo (va_up mf_11 19 (.long 0))) (v := .long 0) hx hb (fun w q => hT w (s_MO w q)) t_MO k_MO n_MO hown hK hI g_x (by decide) rfl 19 (by decide) (hT _ w_828) (fun _ q => q) rfl rfl rfl (by rw [mo_len]; decide) (mo_set _) d_MO_reckon_7 (fun H locs hI => ?_)
      generalize emf_13 : va_up mf_11 19 (.long 0) = mf_13 at hI
      have v_11 : mf_13 11 = .ref a11 := by rw [← emf_13, va_up_ne _ _ (by decide)]; exact v_11
      have v_14 : mf_13 14 = .int rs := by rw [← emf_13, va_up_ne _ _ (by decide)]; exact v_14
      have v_15 : mf_13 15 = .ref a15 := by rw [← emf_13, va_up_ne _ _ (by decide)]; exact v_15
      have v_16 : mf_13 16 = .ref a16 := by rw [← emf_13, va_up_ne _ _ (by decide)]; exact v_16
      have v_17 : mf_13 17 = .ref a17 := by rw [← emf_13, va_up_ne _ _ (by decide)]; exact v_17
      have v_18 : mf_13 18 = .int 0 := by rw [← emf_13, va_up_ne _ _ (by decide)]; exact v_18
      have v_20 : mf_13 20 = .long (lN ce) := by rw [← emf_13, va_up_ne _ _ (by decide)]; exact v_20
      have v_19 : mf_13 19 = .long 0 := by rw [← emf_13, va_up_self]
      generalize eh_14 : fU h_12 x (40, 0, .inr (8, mo mf_13)) = h_14 at hI
      have hX := hX.set (e := .inr (8, mo mf_13)) g_x (by decide); rw [eh_14] at hX
      have hF := hF.set (e := .inr (8, mo mf_13)) g_x (by decide); rw [eh_14] at hF
      have g_a15 : h_14 a15 = some (56, 0, .inl ((G.2.1 0), 5, .inl (fun i => nI (sl i)))) := by rw [← eh_14]; exact fU_keep g_a15 (f_neR g_a15 g_x (by decide))
      have g_a16 : h_14 a16 = some (57, 0, .inl ((G.2.1 0), 5, .inl (fun i => nI (sr i)))) := by rw [← eh_14]; exact fU_keep g_a16 (f_neR g_a16 g_x (by decide))
      have g_a17 : h_14 a17 = some (58, 0, .inl ((G.2.1 1), 5, .inr (.inl (fun i => lN (sc i))))) := by rw [← eh_14]; exact fU_keep g_a17 (f_neR g_a17 g_x (by decide))
      have g_a11 : h_14 a11 = some (52, 0, .inl ((G.2.1 1), 300, .inr (.inl (fun i => lN (fv i))))) := by rw [← eh_14]; exact fU_keep g_a11 (f_neR g_a11 g_x (by decide))
      have hW9 : fF (inR [40]) h_12 h_14 := by rw [← eh_14]; exact fF.rf.set g_x (by decide)
      have g_x : h_14 x = some (40, 0, .inr (8, mo mf_13)) := by rw [← eh_14]; exact fU_self _ _ _
      have hFc := mFc.keep (mf' := mf_13) hFc (fun j _ _ => by rw [← emf_13]; exact va_up_ne _ _ (by omega)) hW9 (by decide)
      have hEd := mEd.keep (mf' := mf_13) hEd (fun j _ _ => by rw [← emf_13]; exact va_up_ne _ _ (by omega)) hW9 (by decide)
      have hm1 : ∀ j, j < 14 ∨ 20 < j → mf_13 j = mf j := fun j hj => by rw [← emf_13, va_up_ne _ _ (by omega)]; exact hm1 j hj
      refine lv_aload_n hx hb d_MO_reckon_10 rfl (lv_at hl 0 rfl) ?_
      refine lv_lconst (v := 0) hx hb d_MO_reckon_11 (by decide) ?_
      refine f_put (C := "DutyRulesModel") (T := T_MO) (N := 40) (fs' := mo (va_up mf_13 20 (.long 0))) (v := .long 0) hx hb (fun w q => hT w (s_MO w q)) t_MO k_MO n_MO hown hK hI g_x (by decide) rfl 20 (by decide) (hT _ w_829) (fun _ q => q) rfl rfl rfl (by rw [mo_len]; decide) (mo_set _) d_MO_reckon_12 (fun H locs hI => ?_)
      generalize emf_15 : va_up mf_13 20 (.long 0) = mf_15 at hI
      have v_11 : mf_15 11 = .ref a11 := by rw [← emf_15, va_up_ne _ _ (by decide)]; exact v_11
      have v_14 : mf_15 14 = .int rs := by rw [← emf_15, va_up_ne _ _ (by decide)]; exact v_14
      have v_15 : mf_15 15 = .ref a15 := by rw [← emf_15, va_up_ne _ _ (by decide)]; exact v_15
      have v_16 : mf_15 16 = .ref a16 := by rw [← emf_15, va_up_ne _ _ (by decide)]; exact v_16
      have v_17 : mf_15 17 = .ref a17 := by rw [← emf_15, va_up_ne _ _ (by decide)]; exact v_17
      have v_18 : mf_15 18 = .int 0 := by rw [← emf_15, va_up_ne _ _ (by decide)]; exact v_18
      have v_19 : mf_15 19 = .long 0 := by rw [← emf_15, va_up_ne _ _ (by decide)]; exact v_19
      have v_20 : mf_15 20 = .long 0 := by rw [← emf_15, va_up_self]
      generalize eh_16 : fU h_14 x (40, 0, .inr (8, mo mf_15)) = h_16 at hI
      have hX := hX.set (e := .inr (8, mo mf_15)) g_x (by decide); rw [eh_16] at hX
      have hF := hF.set (e := .inr (8, mo mf_15)) g_x (by decide); rw [eh_16] at hF
      have g_a15 : h_16 a15 = some (56, 0, .inl ((G.2.1 0), 5, .inl (fun i => nI (sl i)))) := by rw [← eh_16]; exact fU_keep g_a15 (f_neR g_a15 g_x (by decide))
      have g_a16 : h_16 a16 = some (57, 0, .inl ((G.2.1 0), 5, .inl (fun i => nI (sr i)))) := by rw [← eh_16]; exact fU_keep g_a16 (f_neR g_a16 g_x (by decide))
      have g_a17 : h_16 a17 = some (58, 0, .inl ((G.2.1 1), 5, .inr (.inl (fun i => lN (sc i))))) := by rw [← eh_16]; exact fU_keep g_a17 (f_neR g_a17 g_x (by decide))
      have g_a11 : h_16 a11 = some (52, 0, .inl ((G.2.1 1), 300, .inr (.inl (fun i => lN (fv i))))) := by rw [← eh_16]; exact fU_keep g_a11 (f_neR g_a11 g_x (by decide))
      have hW9 : fF (inR [40]) h_14 h_16 := by rw [← eh_16]; exact fF.rf.set g_x (by decide)
      have g_x : h_16 x = some (40, 0, .inr (8, mo mf_15)) := by rw [← eh_16]; exact fU_self _ _ _
      have hFc := mFc.keep (mf' := mf_15) hFc (fun j _ _ => by rw [← emf_15]; exact va_up_ne _ _ (by omega)) hW9 (by decide)
      have hEd := mEd.keep (mf' := mf_15) hEd (fun j _ _ => by rw [← emf_15]; exact va_up_ne _ _ (by omega)) hW9 (by decide)
      have hm1 : ∀ j, j < 14 ∨ 20 < j → mf_15 j = mf j := fun j hj => by rw [← emf_15, va_up_ne _ _ (by omega)]; exact hm1 j hj
      refine lv_aload_n hx hb d_MO_reckon_15 rfl (lv_at hl 0 rfl) ?_
      refine lv_lload_n hx hb d_MO_reckon_16 rfl (lv_at hl 2 rfl) ?_
      refine f_calli hI (f_runV C hI (c_MO_editionOf l G h_16 _ x day mf_15 g_x ne ef rr rm hEd (by omega)) gm_MO_editionOf w_1024 p_MO_editionOf w_1022 g_x rfl rfl rfl hl.1 rfl (Nat.le_of_ble_eq_true rfl) ⟨Nat.le_of_ble_eq_true rfl, Nat.le_of_ble_eq_true rfl⟩ d_MO_reckon_17 ⟨Nat.le_of_ble_eq_true rfl, Nat.le_of_ble_eq_true rfl⟩) (fun r_17 h9 H9 locs hp9 hX9 hz9 hI => ?_)
      obtain ⟨rfl, e9⟩ := hp9
      rw [e9] at hI
      clear hX9 e9
      rw [en]
      refine lv_istore (lv' := [(6, .int (nI e1)), (0, .ref x), (1, .int (nI lot)), (2, .long (lN day)), (4, .long (lN on))]) hx hb d_MO_reckon_20 hl (by decide) rfl (fun ls hl => ?_)
      refine lv_aload_n hx hb d_MO_reckon_22 rfl (lv_at hl 1 rfl) ?_
      refine lv_bipush (v := 20) hx hb d_MO_reckon_23 (by decide) ?_
      refine f_put (C := "DutyRulesModel") (T := T_MO) (N := 40) (fs' := mo (va_up mf_15 14 (.int 20))) (v := .int 20) hx hb (fun w q => hT w (s_MO w q)) t_MO k_MO n_MO hown hK hI g_x (by decide) rfl 14 (by decide) (hT _ w_823) (fun _ q => q) rfl rfl rfl (by rw [mo_len]; decide) (mo_set _) d_MO_reckon_25 (fun H locs hI => ?_)
      generalize emf_18 : va_up mf_15 14 (.int 20) = mf_18 at hI
      have v_11 : mf_18 11 = .ref a11 := by rw [← emf_18, va_up_ne _ _ (by decide)]; exact v_11
      have v_15 : mf_18 15 = .ref a15 := by rw [← emf_18, va_up_ne _ _ (by decide)]; exact v_15
      have v_16 : mf_18 16 = .ref a16 := by rw [← emf_18, va_up_ne _ _ (by decide)]; exact v_16
      have v_17 : mf_18 17 = .ref a17 := by rw [← emf_18, va_up_ne _ _ (by decide)]; exact v_17
      have v_18 : mf_18 18 = .int 0 := by rw [← emf_18, va_up_ne _ _ (by decide)]; exact v_18
      have v_19 : mf_18 19 = .long 0 := by rw [← emf_18, va_up_ne _ _ (by decide)]; exact v_19
      have v_20 : mf_18 20 = .long 0 := by rw [← emf_18, va_up_ne _ _ (by decide)]; exact v_20
      have v_14 : mf_18 14 = .int 20 := by rw [← emf_18, va_up_self]
      generalize eh_19 : fU h_16 x (40, 0, .inr (8, mo mf_18)) = h_19 at hI
      have hX := hX.set (e := .inr (8, mo mf_18)) g_x (by decide); rw [eh_19] at hX
      have hF := hF.set (e := .inr (8, mo mf_18)) g_x (by decide); rw [eh_19] at hF
      have g_a15 : h_19 a15 = some (56, 0, .inl ((G.2.1 0), 5, .inl (fun i => nI (sl i)))) := by rw [← eh_19]; exact fU_keep g_a15 (f_neR g_a15 g_x (by decide))
      have g_a16 : h_19 a16 = some (57, 0, .inl ((G.2.1 0), 5, .inl (fun i => nI (sr i)))) := by rw [← eh_19]; exact fU_keep g_a16 (f_neR g_a16 g_x (by decide))
      have g_a17 : h_19 a17 = some (58, 0, .inl ((G.2.1 1), 5, .inr (.inl (fun i => lN (sc i))))) := by rw [← eh_19]; exact fU_keep g_a17 (f_neR g_a17 g_x (by decide))
      have g_a11 : h_19 a11 = some (52, 0, .inl ((G.2.1 1), 300, .inr (.inl (fun i => lN (fv i))))) := by rw [← eh_19]; exact fU_keep g_a11 (f_neR g_a11 g_x (by decide))
      have hW9 : fF (inR [40]) h_16 h_19 := by rw [← eh_19]; exact fF.rf.set g_x (by decide)
      have g_x : h_19 x = some (40, 0, .inr (8, mo mf_18)) := by rw [← eh_19]; exact fU_self _ _ _
      have hFc := mFc.keep (mf' := mf_18) hFc (fun j _ _ => by rw [← emf_18]; exact va_up_ne _ _ (by omega)) hW9 (by decide)
      have hEd := mEd.keep (mf' := mf_18) hEd (fun j _ _ => by rw [← emf_18]; exact va_up_ne _ _ (by omega)) hW9 (by decide)
      have hm1 : ∀ j, j < 14 ∨ 20 < j → mf_18 j = mf j := fun j hj => by rw [← emf_18, va_up_ne _ _ (by omega)]; exact hm1 j hj
      refine lv_iload hx hb d_MO_reckon_28 (lv_at hl 0 rfl) ?_
      refine lv_iconst (v := (-1)) hx hb d_MO_reckon_30 (by decide) ?_
      refine lv_icmp_ne (tgt := 36) hx hb d_MO_reckon_31 (by decide) (fun c_20 => ?_) (fun c_20 => absurd c_20 (n_m1 (by omega)))
      refine lv_iconst (v := 0) hx hb d_MO_reckon_36 (by decide) ?_
      refine lv_istore (lv' := [(7, .int 0), (6, .int (nI e1)), (0, .ref x), (1, .int (nI lot)), (2, .long (lN day)), (4, .long (lN on))]) hx hb d_MO_reckon_37 hl (by decide) rfl (fun ls hl => ?_)
      refine lv_iload hx hb d_MO_reckon_39 (lv_at hl 0 rfl) ?_
      refine lv_iconst (v := 3) hx hb d_MO_reckon_41 (by decide) ?_
      refine lv_icmp_ge (tgt := 73) hx hb d_MO_reckon_42 (by decide) (fun c_21 => absurd c_21 (by decide)) (fun c_21 => ?_)
      refine lv_aload_n hx hb d_MO_reckon_45 rfl (lv_at hl 2 rfl) ?_
      refine lv_iload hx hb d_MO_reckon_46 (lv_at hl 0 rfl) ?_
      refine f_put (C := "DutyRulesModel") (T := T_MO) (N := 40) (fs' := mo (va_up mf_18 14 (.int 0))) (v := .int 0) hx hb (fun w q => hT w (s_MO w q)) t_MO k_MO n_MO hown hK hI g_x (by decide) rfl 14 (by decide) (hT _ w_823) (fun _ q => q) rfl rfl rfl (by rw [mo_len]; decide) (mo_set _) d_MO_reckon_48 (fun H locs hI => ?_)
      generalize emf_22 : va_up mf_18 14 (.int 0) = mf_22 at hI
      have v_11 : mf_22 11 = .ref a11 := by rw [← emf_22, va_up_ne _ _ (by decide)]; exact v_11
      have v_15 : mf_22 15 = .ref a15 := by rw [← emf_22, va_up_ne _ _ (by decide)]; exact v_15
      have v_16 : mf_22 16 = .ref a16 := by rw [← emf_22, va_up_ne _ _ (by decide)]; exact v_16
      have v_17 : mf_22 17 = .ref a17 := by rw [← emf_22, va_up_ne _ _ (by decide)]; exact v_17
      have v_18 : mf_22 18 = .int 0 := by rw [← emf_22, va_up_ne _ _ (by decide)]; exact v_18
      have v_19 : mf_22 19 = .long 0 := by rw [← emf_22, va_up_ne _ _ (by decide)]; exact v_19
      have v_20 : mf_22 20 = .long 0 := by rw [← emf_22, va_up_ne _ _ (by decide)]; exact v_20
      have v_14 : mf_22 14 = .int 0 := by rw [← emf_22, va_up_self]
      generalize eh_23 : fU h_19 x (40, 0, .inr (8, mo mf_22)) = h_23 at hI
      have hX := hX.set (e := .inr (8, mo mf_22)) g_x (by decide); rw [eh_23] at hX
      have hF := hF.set (e := .inr (8, mo mf_22)) g_x (by decide); rw [eh_23] at hF
      have g_a15 : h_23 a15 = some (56, 0, .inl ((G.2.1 0), 5, .inl (fun i => nI (sl i)))) := by rw [← eh_23]; exact fU_keep g_a15 (f_neR g_a15 g_x (by decide))
      have g_a16 : h_23 a16 = some (57, 0, .inl ((G.2.1 0), 5, .inl (fun i => nI (sr i)))) := by rw [← eh_23]; exact fU_keep g_a16 (f_neR g_a16 g_x (by decide))
      have g_a17 : h_23 a17 = some (58, 0, .inl ((G.2.1 1), 5, .inr (.inl (fun i => lN (sc i))))) := by rw [← eh_23]; exact fU_keep g_a17 (f_neR g_a17 g_x (by decide))
      have g_a11 : h_23 a11 = some (52, 0, .inl ((G.2.1 1), 300, .inr (.inl (fun i => lN (fv i))))) := by rw [← eh_23]; exact fU_keep g_a11 (f_neR g_a11 g_x (by decide))
      have hW9 : fF (inR [40]) h_19 h_23 := by rw [← eh_23]; exact fF.rf.set g_x (by decide)
      have g_x : h_23 x = some (40, 0, .inr (8, mo mf_22)) := by rw [← eh_23]; exact fU_self _ _ _
      have hFc := mFc.keep (mf' := mf_22) hFc (fun j _ _ => by rw [← emf_22]; exact va_up_ne _ _ (by omega)) hW9 (by decide)
      have hEd := mEd.keep (mf' := mf_22) hEd (fun j _ _ => by rw [← emf_22]; exact va_up_ne _ _ (by omega)) hW9 (by decide)
      have hm1 : ∀ j, j < 14 ∨ 20 < j → mf_22 j = mf j := fun j hj => by rw [← emf_22, va_up_ne _ _ (by omega)]; exact hm1 j hj
      refine lv_aload_n hx hb d_MO_reckon_51 rfl (lv_at hl 2 rfl) ?_
      refine lv_iload_n hx hb d_MO_reckon_52 rfl (lv_at hl 3 rfl) ?_
      refine lv_iload hx hb d_MO_reckon_53 (lv_at hl 0 rfl) ?_
      refine lv_lload_n hx hb d_MO_reckon_55 rfl (lv_at hl 4 rfl) ?_
      refine lv_lload hx hb d_MO_reckon_56 (lv_at hl 5 rfl) ?_
      refine f_calli hI (f_runV C hI (c_MO_holds l G h_23 _ x nf lot 0 day on fl fk fd fw fv mf_22 g_x hFc (by omega) (by omega) (by omega) (by omega)) gm_MO_holds w_1028 p_MO_holds w_1026 g_x rfl rfl rfl hl.1 rfl (Nat.le_of_ble_eq_true rfl) ⟨Nat.le_of_ble_eq_true rfl, Nat.le_of_ble_eq_true rfl⟩ d_MO_reckon_58 ⟨Nat.le_of_ble_eq_true rfl, Nat.le_of_ble_eq_true rfl⟩) (fun r_24 h9 H9 locs hp9 hX9 hz9 hI => ?_)
      obtain ⟨rfl, e9⟩ := hp9
      rw [e9] at hI
      clear hX9 e9
      rw [e0, bI_0]
      refine lv_iconst (v := (-1)) hx hb d_MO_reckon_61 (by decide) ?_
      refine lv_icmp_ne (tgt := 67) hx hb d_MO_reckon_62 (by decide) (fun c_25 => absurd rfl c_25) (fun c_25 => ?_)
      refine lv_iconst (v := 0) hx hb d_MO_reckon_65 (by decide) ?_
      exact f_zret C hr rfl hI ⟨by rw [hrk]; rfl, mf_22, g_x, hm1, by rw [hrk]; exact ⟨sl, sr, sc, ⟨a15, a16, a17, ⟨v_14, v_15, v_16, v_17, v_18, v_19, v_20⟩, ⟨g_a15, g_a16, g_a17⟩⟩, fun i q hi => by simp [d0] at hi⟩, hF⟩ hX (Nat.le_refl _) (Nat.le_refl _) d_MO_reckon_66
    · have hK0 : (mK nf fl fk fd fw fv lot day on) 0 = some (fv i0) := by show kv fv (hk fl fk fd fw lot 0 day on nf) = _; rw [e0]; exact kv_k (by omega)
      rcases hk_ix (fl := fl) (fk := fk) (fd := fd) (fw := fw) (lot := lot) (kind := 1) (day := day) (on := on) nf with e1 | ⟨i1, hi1, e1, hh1⟩
      · have hK1 : (mK nf fl fk fd fw fv lot day on) 1 = none := by show kv fv (hk fl fk fd fw lot 1 day on nf) = _; rw [e1]; rfl
        have hrk : rk (mK nf fl fk fd fw fv lot day on) (mE ne ef rr rm day) = (1, d0) := by rw [hed]; show rkE _ _ _ = _; unfold rkE; simp only [hK0, hK1]
        refine lv_aload_n hx hb d_MO_reckon_0 rfl (lv_at hl 0 rfl) ?_
        refine lv_iconst (v := 0) hx hb d_MO_reckon_1 (by decide) ?_
        refine f_put (C := "DutyRulesModel") (T := T_MO) (N := 40) (fs' := mo (va_up mf 18 (.int 0))) (v := .int 0) hx hb (fun w q => hT w (s_MO w q)) t_MO k_MO n_MO hown hK hI g_x (by decide) rfl 18 (by decide) (hT _ w_827) (fun _ q => q) rfl rfl rfl (by rw [mo_len]; decide) (mo_set _) d_MO_reckon_2 (fun H locs hI => ?_)
        generalize emf_26 : va_up mf 18 (.int 0) = mf_26 at hI
        have v_11 : mf_26 11 = .ref a11 := by rw [← emf_26, va_up_ne _ _ (by decide)]; exact v_11
        have v_14 : mf_26 14 = .int rs := by rw [← emf_26, va_up_ne _ _ (by decide)]; exact v_14
        have v_15 : mf_26 15 = .ref a15 := by rw [← emf_26, va_up_ne _ _ (by decide)]; exact v_15
        have v_16 : mf_26 16 = .ref a16 := by rw [← emf_26, va_up_ne _ _ (by decide)]; exact v_16
        have v_17 : mf_26 17 = .ref a17 := by rw [← emf_26, va_up_ne _ _ (by decide)]; exact v_17
        have v_19 : mf_26 19 = .long (lN fr) := by rw [← emf_26, va_up_ne _ _ (by decide)]; exact v_19
        have v_20 : mf_26 20 = .long (lN ce) := by rw [← emf_26, va_up_ne _ _ (by decide)]; exact v_20
        have v_18 : mf_26 18 = .int 0 := by rw [← emf_26, va_up_self]
        generalize eh_27 : fU h x (40, 0, .inr (8, mo mf_26)) = h_27 at hI
        have hX := hX.set (e := .inr (8, mo mf_26)) g_x (by decide); rw [eh_27] at hX
        have hF := hF.set (e := .inr (8, mo mf_26)) g_x (by decide); rw [eh_27] at hF
        have g_a15 : h_27 a15 = some (56, 0, .inl ((G.2.1 0), 5, .inl (fun i => nI (sl i)))) := by rw [← eh_27]; exact fU_keep g_a15 (f_neR g_a15 g_x (by decide))
        have g_a16 : h_27 a16 = some (57, 0, .inl ((G.2.1 0), 5, .inl (fun i => nI (sr i)))) := by rw [← eh_27]; exact fU_keep g_a16 (f_neR g_a16 g_x (by decide))
        have g_a17 : h_27 a17 = some (58, 0, .inl ((G.2.1 1), 5, .inr (.inl (fun i => lN (sc i))))) := by rw [← eh_27]; exact fU_keep g_a17 (f_neR g_a17 g_x (by decide))
        have g_a11 : h_27 a11 = some (52, 0, .inl ((G.2.1 1), 300, .inr (.inl (fun i => lN (fv i))))) := by rw [← eh_27]; exact fU_keep g_a11 (f_neR g_a11 g_x (by decide))
        have hW9 : fF (inR [40]) h h_27 := by rw [← eh_27]; exact fF.rf.set g_x (by decide)
        have g_x : h_27 x = some (40, 0, .inr (8, mo mf_26)) := by rw [← eh_27]; exact fU_self _ _ _
        have hFc := mFc.keep (mf' := mf_26) hFc (fun j _ _ => by rw [← emf_26]; exact va_up_ne _ _ (by omega)) hW9 (by decide)
        have hEd := mEd.keep (mf' := mf_26) hEd (fun j _ _ => by rw [← emf_26]; exact va_up_ne _ _ (by omega)) hW9 (by decide)
        have hm1 : ∀ j, j < 14 ∨ 20 < j → mf_26 j = mf j := fun j hj => by rw [← emf_26, va_up_ne _ _ (by omega)]; exact hm1 j hj
        refine lv_aload_n hx hb d_MO_reckon_5 rfl (lv_at hl 0 rfl) ?_
        refine lv_lconst (v := 0) hx hb d_MO_reckon_6 (by decide) ?_
        refine f_put (C := "DutyRulesModel") (T := T_MO) (N := 40) (fs' := mo (va_up mf_26 19 (.long 0))) (v := .long 0) hx hb (fun w q => hT w (s_MO w q)) t_MO k_MO n_MO hown hK hI g_x (by decide) rfl 19 (by decide) (hT _ w_828) (fun _ q => q) rfl rfl rfl (by rw [mo_len]; decide) (mo_set _) d_MO_reckon_7 (fun H locs hI => ?_)
        generalize emf_28 : va_up mf_26 19 (.long 0) = mf_28 at hI
        have v_11 : mf_28 11 = .ref a11 := by rw [← emf_28, va_up_ne _ _ (by decide)]; exact v_11
        have v_14 : mf_28 14 = .int rs := by rw [← emf_28, va_up_ne _ _ (by decide)]; exact v_14
        have v_15 : mf_28 15 = .ref a15 := by rw [← emf_28, va_up_ne _ _ (by decide)]; exact v_15
        have v_16 : mf_28 16 = .ref a16 := by rw [← emf_28, va_up_ne _ _ (by decide)]; exact v_16
        have v_17 : mf_28 17 = .ref a17 := by rw [← emf_28, va_up_ne _ _ (by decide)]; exact v_17
        have v_18 : mf_28 18 = .int 0 := by rw [← emf_28, va_up_ne _ _ (by decide)]; exact v_18
        have v_20 : mf_28 20 = .long (lN ce) := by rw [← emf_28, va_up_ne _ _ (by decide)]; exact v_20
        have v_19 : mf_28 19 = .long 0 := by rw [← emf_28, va_up_self]
        generalize eh_29 : fU h_27 x (40, 0, .inr (8, mo mf_28)) = h_29 at hI
        have hX := hX.set (e := .inr (8, mo mf_28)) g_x (by decide); rw [eh_29] at hX
        have hF := hF.set (e := .inr (8, mo mf_28)) g_x (by decide); rw [eh_29] at hF
        have g_a15 : h_29 a15 = some (56, 0, .inl ((G.2.1 0), 5, .inl (fun i => nI (sl i)))) := by rw [← eh_29]; exact fU_keep g_a15 (f_neR g_a15 g_x (by decide))
        have g_a16 : h_29 a16 = some (57, 0, .inl ((G.2.1 0), 5, .inl (fun i => nI (sr i)))) := by rw [← eh_29]; exact fU_keep g_a16 (f_neR g_a16 g_x (by decide))
        have g_a17 : h_29 a17 = some (58, 0, .inl ((G.2.1 1), 5, .inr (.inl (fun i => lN (sc i))))) := by rw [← eh_29]; exact fU_keep g_a17 (f_neR g_a17 g_x (by decide))
        have g_a11 : h_29 a11 = some (52, 0, .inl ((G.2.1 1), 300, .inr (.inl (fun i => lN (fv i))))) := by rw [← eh_29]; exact fU_keep g_a11 (f_neR g_a11 g_x (by decide))
        have hW9 : fF (inR [40]) h_27 h_29 := by rw [← eh_29]; exact fF.rf.set g_x (by decide)
        have g_x : h_29 x = some (40, 0, .inr (8, mo mf_28)) := by rw [← eh_29]; exact fU_self _ _ _
        have hFc := mFc.keep (mf' := mf_28) hFc (fun j _ _ => by rw [← emf_28]; exact va_up_ne _ _ (by omega)) hW9 (by decide)
        have hEd := mEd.keep (mf' := mf_28) hEd (fun j _ _ => by rw [← emf_28]; exact va_up_ne _ _ (by omega)) hW9 (by decide)
        have hm1 : ∀ j, j < 14 ∨ 20 < j → mf_28 j = mf j := fun j hj => by rw [← emf_28, va_up_ne _ _ (by omega)]; exact hm1 j hj
        refine lv_aload_n hx hb d_MO_reckon_10 rfl (lv_at hl 0 rfl) ?_
        refine lv_lconst (v := 0) hx hb d_MO_reckon_11 (by decide) ?_
        refine f_put (C := "DutyRulesModel") (T := T_MO) (N := 40) (fs' := mo (va_up mf_28 20 (.long 0))) (v := .long 0) hx hb (fun w q => hT w (s_MO w q)) t_MO k_MO n_MO hown hK hI g_x (by decide) rfl 20 (by decide) (hT _ w_829) (fun _ q => q) rfl rfl rfl (by rw [mo_len]; decide) (mo_set _) d_MO_reckon_12 (fun H locs hI => ?_)
        generalize emf_30 : va_up mf_28 20 (.long 0) = mf_30 at hI
        have v_11 : mf_30 11 = .ref a11 := by rw [← emf_30, va_up_ne _ _ (by decide)]; exact v_11
        have v_14 : mf_30 14 = .int rs := by rw [← emf_30, va_up_ne _ _ (by decide)]; exact v_14
        have v_15 : mf_30 15 = .ref a15 := by rw [← emf_30, va_up_ne _ _ (by decide)]; exact v_15
        have v_16 : mf_30 16 = .ref a16 := by rw [← emf_30, va_up_ne _ _ (by decide)]; exact v_16
        have v_17 : mf_30 17 = .ref a17 := by rw [← emf_30, va_up_ne _ _ (by decide)]; exact v_17
        have v_18 : mf_30 18 = .int 0 := by rw [← emf_30, va_up_ne _ _ (by decide)]; exact v_18
        have v_19 : mf_30 19 = .long 0 := by rw [← emf_30, va_up_ne _ _ (by decide)]; exact v_19
        have v_20 : mf_30 20 = .long 0 := by rw [← emf_30, va_up_self]
        generalize eh_31 : fU h_29 x (40, 0, .inr (8, mo mf_30)) = h_31 at hI
        have hX := hX.set (e := .inr (8, mo mf_30)) g_x (by decide); rw [eh_31] at hX
        have hF := hF.set (e := .inr (8, mo mf_30)) g_x (by decide); rw [eh_31] at hF
        have g_a15 : h_31 a15 = some (56, 0, .inl ((G.2.1 0), 5, .inl (fun i => nI (sl i)))) := by rw [← eh_31]; exact fU_keep g_a15 (f_neR g_a15 g_x (by decide))
        have g_a16 : h_31 a16 = some (57, 0, .inl ((G.2.1 0), 5, .inl (fun i => nI (sr i)))) := by rw [← eh_31]; exact fU_keep g_a16 (f_neR g_a16 g_x (by decide))
        have g_a17 : h_31 a17 = some (58, 0, .inl ((G.2.1 1), 5, .inr (.inl (fun i => lN (sc i))))) := by rw [← eh_31]; exact fU_keep g_a17 (f_neR g_a17 g_x (by decide))
        have g_a11 : h_31 a11 = some (52, 0, .inl ((G.2.1 1), 300, .inr (.inl (fun i => lN (fv i))))) := by rw [← eh_31]; exact fU_keep g_a11 (f_neR g_a11 g_x (by decide))
        have hW9 : fF (inR [40]) h_29 h_31 := by rw [← eh_31]; exact fF.rf.set g_x (by decide)
        have g_x : h_31 x = some (40, 0, .inr (8, mo mf_30)) := by rw [← eh_31]; exact fU_self _ _ _
        have hFc := mFc.keep (mf' := mf_30) hFc (fun j _ _ => by rw [← emf_30]; exact va_up_ne _ _ (by omega)) hW9 (by decide)
        have hEd := mEd.keep (mf' := mf_30) hEd (fun j _ _ => by rw [← emf_30]; exact va_up_ne _ _ (by omega)) hW9 (by decide)
        have hm1 : ∀ j, j < 14 ∨ 20 < j → mf_30 j = mf j := fun j hj => by rw [← emf_30, va_up_ne _ _ (by omega)]; exact hm1 j hj
        refine lv_aload_n hx hb d_MO_reckon_15 rfl (lv_at hl 0 rfl) ?_
        refine lv_lload_n hx hb d_MO_reckon_16 rfl (lv_at hl 2 rfl) ?_
        refine f_calli hI (f_runV C hI (c_MO_editionOf l G h_31 _ x day mf_30 g_x ne ef rr rm hEd (by omega)) gm_MO_editionOf w_1024 p_MO_editionOf w_1022 g_x rfl rfl rfl hl.1 rfl (Nat.le_of_ble_eq_true rfl) ⟨Nat.le_of_ble_eq_true rfl, Nat.le_of_ble_eq_true rfl⟩ d_MO_reckon_17 ⟨Nat.le_of_ble_eq_true rfl, Nat.le_of_ble_eq_true rfl⟩) (fun r_32 h9 H9 locs hp9 hX9 hz9 hI => ?_)
        obtain ⟨rfl, e9⟩ := hp9
        rw [e9] at hI
        clear hX9 e9
        rw [en]
        refine lv_istore (lv' := [(6, .int (nI e1)), (0, .ref x), (1, .int (nI lot)), (2, .long (lN day)), (4, .long (lN on))]) hx hb d_MO_reckon_20 hl (by decide) rfl (fun ls hl => ?_)
        refine lv_aload_n hx hb d_MO_reckon_22 rfl (lv_at hl 1 rfl) ?_
        refine lv_bipush (v := 20) hx hb d_MO_reckon_23 (by decide) ?_
        refine f_put (C := "DutyRulesModel") (T := T_MO) (N := 40) (fs' := mo (va_up mf_30 14 (.int 20))) (v := .int 20) hx hb (fun w q => hT w (s_MO w q)) t_MO k_MO n_MO hown hK hI g_x (by decide) rfl 14 (by decide) (hT _ w_823) (fun _ q => q) rfl rfl rfl (by rw [mo_len]; decide) (mo_set _) d_MO_reckon_25 (fun H locs hI => ?_)
        generalize emf_33 : va_up mf_30 14 (.int 20) = mf_33 at hI
        have v_11 : mf_33 11 = .ref a11 := by rw [← emf_33, va_up_ne _ _ (by decide)]; exact v_11
        have v_15 : mf_33 15 = .ref a15 := by rw [← emf_33, va_up_ne _ _ (by decide)]; exact v_15
        have v_16 : mf_33 16 = .ref a16 := by rw [← emf_33, va_up_ne _ _ (by decide)]; exact v_16
        have v_17 : mf_33 17 = .ref a17 := by rw [← emf_33, va_up_ne _ _ (by decide)]; exact v_17
        have v_18 : mf_33 18 = .int 0 := by rw [← emf_33, va_up_ne _ _ (by decide)]; exact v_18
        have v_19 : mf_33 19 = .long 0 := by rw [← emf_33, va_up_ne _ _ (by decide)]; exact v_19
        have v_20 : mf_33 20 = .long 0 := by rw [← emf_33, va_up_ne _ _ (by decide)]; exact v_20
        have v_14 : mf_33 14 = .int 20 := by rw [← emf_33, va_up_self]
        generalize eh_34 : fU h_31 x (40, 0, .inr (8, mo mf_33)) = h_34 at hI
        have hX := hX.set (e := .inr (8, mo mf_33)) g_x (by decide); rw [eh_34] at hX
        have hF := hF.set (e := .inr (8, mo mf_33)) g_x (by decide); rw [eh_34] at hF
        have g_a15 : h_34 a15 = some (56, 0, .inl ((G.2.1 0), 5, .inl (fun i => nI (sl i)))) := by rw [← eh_34]; exact fU_keep g_a15 (f_neR g_a15 g_x (by decide))
        have g_a16 : h_34 a16 = some (57, 0, .inl ((G.2.1 0), 5, .inl (fun i => nI (sr i)))) := by rw [← eh_34]; exact fU_keep g_a16 (f_neR g_a16 g_x (by decide))
        have g_a17 : h_34 a17 = some (58, 0, .inl ((G.2.1 1), 5, .inr (.inl (fun i => lN (sc i))))) := by rw [← eh_34]; exact fU_keep g_a17 (f_neR g_a17 g_x (by decide))
        have g_a11 : h_34 a11 = some (52, 0, .inl ((G.2.1 1), 300, .inr (.inl (fun i => lN (fv i))))) := by rw [← eh_34]; exact fU_keep g_a11 (f_neR g_a11 g_x (by decide))
        have hW9 : fF (inR [40]) h_31 h_34 := by rw [← eh_34]; exact fF.rf.set g_x (by decide)
        have g_x : h_34 x = some (40, 0, .inr (8, mo mf_33)) := by rw [← eh_34]; exact fU_self _ _ _
        have hFc := mFc.keep (mf' := mf_33) hFc (fun j _ _ => by rw [← emf_33]; exact va_up_ne _ _ (by omega)) hW9 (by decide)
        have hEd := mEd.keep (mf' := mf_33) hEd (fun j _ _ => by rw [← emf_33]; exact va_up_ne _ _ (by omega)) hW9 (by decide)
        have hm1 : ∀ j, j < 14 ∨ 20 < j → mf_33 j = mf j := fun j hj => by rw [← emf_33, va_up_ne _ _ (by omega)]; exact hm1 j hj
        refine lv_iload hx hb d_MO_reckon_28 (lv_at hl 0 rfl) ?_
        refine lv_iconst (v := (-1)) hx hb d_MO_reckon_30 (by decide) ?_
        refine lv_icmp_ne (tgt := 36) hx hb d_MO_reckon_31 (by decide) (fun c_35 => ?_) (fun c_35 => absurd c_35 (n_m1 (by omega)))
        refine lv_iconst (v := 0) hx hb d_MO_reckon_36 (by decide) ?_
        refine lv_istore (lv' := [(7, .int 0), (6, .int (nI e1)), (0, .ref x), (1, .int (nI lot)), (2, .long (lN day)), (4, .long (lN on))]) hx hb d_MO_reckon_37 hl (by decide) rfl (fun ls hl => ?_)
        refine lv_iload hx hb d_MO_reckon_39 (lv_at hl 0 rfl) ?_
        refine lv_iconst (v := 3) hx hb d_MO_reckon_41 (by decide) ?_
        refine lv_icmp_ge (tgt := 73) hx hb d_MO_reckon_42 (by decide) (fun c_36 => absurd c_36 (by decide)) (fun c_36 => ?_)
        refine lv_aload_n hx hb d_MO_reckon_45 rfl (lv_at hl 2 rfl) ?_
        refine lv_iload hx hb d_MO_reckon_46 (lv_at hl 0 rfl) ?_
        refine f_put (C := "DutyRulesModel") (T := T_MO) (N := 40) (fs' := mo (va_up mf_33 14 (.int 0))) (v := .int 0) hx hb (fun w q => hT w (s_MO w q)) t_MO k_MO n_MO hown hK hI g_x (by decide) rfl 14 (by decide) (hT _ w_823) (fun _ q => q) rfl rfl rfl (by rw [mo_len]; decide) (mo_set _) d_MO_reckon_48 (fun H locs hI => ?_)
        generalize emf_37 : va_up mf_33 14 (.int 0) = mf_37 at hI
        have v_11 : mf_37 11 = .ref a11 := by rw [← emf_37, va_up_ne _ _ (by decide)]; exact v_11
        have v_15 : mf_37 15 = .ref a15 := by rw [← emf_37, va_up_ne _ _ (by decide)]; exact v_15
        have v_16 : mf_37 16 = .ref a16 := by rw [← emf_37, va_up_ne _ _ (by decide)]; exact v_16
        have v_17 : mf_37 17 = .ref a17 := by rw [← emf_37, va_up_ne _ _ (by decide)]; exact v_17
        have v_18 : mf_37 18 = .int 0 := by rw [← emf_37, va_up_ne _ _ (by decide)]; exact v_18
        have v_19 : mf_37 19 = .long 0 := by rw [← emf_37, va_up_ne _ _ (by decide)]; exact v_19
        have v_20 : mf_37 20 = .long 0 := by rw [← emf_37, va_up_ne _ _ (by decide)]; exact v_20
        have v_14 : mf_37 14 = .int 0 := by rw [← emf_37, va_up_self]
        generalize eh_38 : fU h_34 x (40, 0, .inr (8, mo mf_37)) = h_38 at hI
        have hX := hX.set (e := .inr (8, mo mf_37)) g_x (by decide); rw [eh_38] at hX
        have hF := hF.set (e := .inr (8, mo mf_37)) g_x (by decide); rw [eh_38] at hF
        have g_a15 : h_38 a15 = some (56, 0, .inl ((G.2.1 0), 5, .inl (fun i => nI (sl i)))) := by rw [← eh_38]; exact fU_keep g_a15 (f_neR g_a15 g_x (by decide))
        have g_a16 : h_38 a16 = some (57, 0, .inl ((G.2.1 0), 5, .inl (fun i => nI (sr i)))) := by rw [← eh_38]; exact fU_keep g_a16 (f_neR g_a16 g_x (by decide))
        have g_a17 : h_38 a17 = some (58, 0, .inl ((G.2.1 1), 5, .inr (.inl (fun i => lN (sc i))))) := by rw [← eh_38]; exact fU_keep g_a17 (f_neR g_a17 g_x (by decide))
        have g_a11 : h_38 a11 = some (52, 0, .inl ((G.2.1 1), 300, .inr (.inl (fun i => lN (fv i))))) := by rw [← eh_38]; exact fU_keep g_a11 (f_neR g_a11 g_x (by decide))
        have hW9 : fF (inR [40]) h_34 h_38 := by rw [← eh_38]; exact fF.rf.set g_x (by decide)
        have g_x : h_38 x = some (40, 0, .inr (8, mo mf_37)) := by rw [← eh_38]; exact fU_self _ _ _
        have hFc := mFc.keep (mf' := mf_37) hFc (fun j _ _ => by rw [← emf_37]; exact va_up_ne _ _ (by omega)) hW9 (by decide)
        have hEd := mEd.keep (mf' := mf_37) hEd (fun j _ _ => by rw [← emf_37]; exact va_up_ne _ _ (by omega)) hW9 (by decide)
        have hm1 : ∀ j, j < 14 ∨ 20 < j → mf_37 j = mf j := fun j hj => by rw [← emf_37, va_up_ne _ _ (by omega)]; exact hm1 j hj
        refine lv_aload_n hx hb d_MO_reckon_51 rfl (lv_at hl 2 rfl) ?_
        refine lv_iload_n hx hb d_MO_reckon_52 rfl (lv_at hl 3 rfl) ?_
        refine lv_iload hx hb d_MO_reckon_53 (lv_at hl 0 rfl) ?_
        refine lv_lload_n hx hb d_MO_reckon_55 rfl (lv_at hl 4 rfl) ?_
        refine lv_lload hx hb d_MO_reckon_56 (lv_at hl 5 rfl) ?_
        refine f_calli hI (f_runV C hI (c_MO_holds l G h_38 _ x nf lot 0 day on fl fk fd fw fv mf_37 g_x hFc (by omega) (by omega) (by omega) (by omega)) gm_MO_holds w_1028 p_MO_holds w_1026 g_x rfl rfl rfl hl.1 rfl (Nat.le_of_ble_eq_true rfl) ⟨Nat.le_of_ble_eq_true rfl, Nat.le_of_ble_eq_true rfl⟩ d_MO_reckon_58 ⟨Nat.le_of_ble_eq_true rfl, Nat.le_of_ble_eq_true rfl⟩) (fun r_39 h9 H9 locs hp9 hX9 hz9 hI => ?_)
        obtain ⟨rfl, e9⟩ := hp9
        rw [e9] at hI
        clear hX9 e9
        rw [e0, bI_k (by omega)]
        refine lv_iconst (v := (-1)) hx hb d_MO_reckon_61 (by decide) ?_
        refine lv_icmp_ne (tgt := 67) hx hb d_MO_reckon_62 (by decide) (fun c_40 => ?_) (fun c_40 => absurd c_40 (n_m1 (by omega)))
        refine lv_iinc (v := 1) (lv' := [(7, .int 1), (6, .int (nI e1)), (0, .ref x), (1, .int (nI lot)), (2, .long (lN day)), (4, .long (lN on))]) hx hb d_MO_reckon_67 hl (k := 0) rfl (by decide) (by decide) rfl (fun ls hl => ?_)
        refine lv_goto (tgt := 39) hx hb d_MO_reckon_70 (by decide) ?_
        refine lv_iload hx hb d_MO_reckon_39 (lv_at hl 0 rfl) ?_
        refine lv_iconst (v := 3) hx hb d_MO_reckon_41 (by decide) ?_
        refine lv_icmp_ge (tgt := 73) hx hb d_MO_reckon_42 (by decide) (fun c_41 => absurd c_41 (by decide)) (fun c_41 => ?_)
        refine lv_aload_n hx hb d_MO_reckon_45 rfl (lv_at hl 2 rfl) ?_
        refine lv_iload hx hb d_MO_reckon_46 (lv_at hl 0 rfl) ?_
        refine f_put (C := "DutyRulesModel") (T := T_MO) (N := 40) (fs' := mo (va_up mf_37 14 (.int 1))) (v := .int 1) hx hb (fun w q => hT w (s_MO w q)) t_MO k_MO n_MO hown hK hI g_x (by decide) rfl 14 (by decide) (hT _ w_823) (fun _ q => q) rfl rfl rfl (by rw [mo_len]; decide) (mo_set _) d_MO_reckon_48 (fun H locs hI => ?_)
        generalize emf_42 : va_up mf_37 14 (.int 1) = mf_42 at hI
        have v_11 : mf_42 11 = .ref a11 := by rw [← emf_42, va_up_ne _ _ (by decide)]; exact v_11
        have v_15 : mf_42 15 = .ref a15 := by rw [← emf_42, va_up_ne _ _ (by decide)]; exact v_15
        have v_16 : mf_42 16 = .ref a16 := by rw [← emf_42, va_up_ne _ _ (by decide)]; exact v_16
        have v_17 : mf_42 17 = .ref a17 := by rw [← emf_42, va_up_ne _ _ (by decide)]; exact v_17
        have v_18 : mf_42 18 = .int 0 := by rw [← emf_42, va_up_ne _ _ (by decide)]; exact v_18
        have v_19 : mf_42 19 = .long 0 := by rw [← emf_42, va_up_ne _ _ (by decide)]; exact v_19
        have v_20 : mf_42 20 = .long 0 := by rw [← emf_42, va_up_ne _ _ (by decide)]; exact v_20
        have v_14 : mf_42 14 = .int 1 := by rw [← emf_42, va_up_self]
        generalize eh_43 : fU h_38 x (40, 0, .inr (8, mo mf_42)) = h_43 at hI
        have hX := hX.set (e := .inr (8, mo mf_42)) g_x (by decide); rw [eh_43] at hX
        have hF := hF.set (e := .inr (8, mo mf_42)) g_x (by decide); rw [eh_43] at hF
        have g_a15 : h_43 a15 = some (56, 0, .inl ((G.2.1 0), 5, .inl (fun i => nI (sl i)))) := by rw [← eh_43]; exact fU_keep g_a15 (f_neR g_a15 g_x (by decide))
        have g_a16 : h_43 a16 = some (57, 0, .inl ((G.2.1 0), 5, .inl (fun i => nI (sr i)))) := by rw [← eh_43]; exact fU_keep g_a16 (f_neR g_a16 g_x (by decide))
        have g_a17 : h_43 a17 = some (58, 0, .inl ((G.2.1 1), 5, .inr (.inl (fun i => lN (sc i))))) := by rw [← eh_43]; exact fU_keep g_a17 (f_neR g_a17 g_x (by decide))
        have g_a11 : h_43 a11 = some (52, 0, .inl ((G.2.1 1), 300, .inr (.inl (fun i => lN (fv i))))) := by rw [← eh_43]; exact fU_keep g_a11 (f_neR g_a11 g_x (by decide))
        have hW9 : fF (inR [40]) h_38 h_43 := by rw [← eh_43]; exact fF.rf.set g_x (by decide)
        have g_x : h_43 x = some (40, 0, .inr (8, mo mf_42)) := by rw [← eh_43]; exact fU_self _ _ _
        have hFc := mFc.keep (mf' := mf_42) hFc (fun j _ _ => by rw [← emf_42]; exact va_up_ne _ _ (by omega)) hW9 (by decide)
        have hEd := mEd.keep (mf' := mf_42) hEd (fun j _ _ => by rw [← emf_42]; exact va_up_ne _ _ (by omega)) hW9 (by decide)
        have hm1 : ∀ j, j < 14 ∨ 20 < j → mf_42 j = mf j := fun j hj => by rw [← emf_42, va_up_ne _ _ (by omega)]; exact hm1 j hj
        refine lv_aload_n hx hb d_MO_reckon_51 rfl (lv_at hl 2 rfl) ?_
        refine lv_iload_n hx hb d_MO_reckon_52 rfl (lv_at hl 3 rfl) ?_
        refine lv_iload hx hb d_MO_reckon_53 (lv_at hl 0 rfl) ?_
        refine lv_lload_n hx hb d_MO_reckon_55 rfl (lv_at hl 4 rfl) ?_
        refine lv_lload hx hb d_MO_reckon_56 (lv_at hl 5 rfl) ?_
        refine f_calli hI (f_runV C hI (c_MO_holds l G h_43 _ x nf lot 1 day on fl fk fd fw fv mf_42 g_x hFc (by omega) (by omega) (by omega) (by omega)) gm_MO_holds w_1028 p_MO_holds w_1026 g_x rfl rfl rfl hl.1 rfl (Nat.le_of_ble_eq_true rfl) ⟨Nat.le_of_ble_eq_true rfl, Nat.le_of_ble_eq_true rfl⟩ d_MO_reckon_58 ⟨Nat.le_of_ble_eq_true rfl, Nat.le_of_ble_eq_true rfl⟩) (fun r_44 h9 H9 locs hp9 hX9 hz9 hI => ?_)
        obtain ⟨rfl, e9⟩ := hp9
        rw [e9] at hI
        clear hX9 e9
        rw [e1, bI_0]
        refine lv_iconst (v := (-1)) hx hb d_MO_reckon_61 (by decide) ?_
        refine lv_icmp_ne (tgt := 67) hx hb d_MO_reckon_62 (by decide) (fun c_45 => absurd rfl c_45) (fun c_45 => ?_)
        refine lv_iconst (v := 0) hx hb d_MO_reckon_65 (by decide) ?_
        exact f_zret C hr rfl hI ⟨by rw [hrk]; rfl, mf_42, g_x, hm1, by rw [hrk]; exact ⟨sl, sr, sc, ⟨a15, a16, a17, ⟨v_14, v_15, v_16, v_17, v_18, v_19, v_20⟩, ⟨g_a15, g_a16, g_a17⟩⟩, fun i q hi => by simp [d0] at hi⟩, hF⟩ hX (Nat.le_refl _) (Nat.le_refl _) d_MO_reckon_66
      · have hK1 : (mK nf fl fk fd fw fv lot day on) 1 = some (fv i1) := by show kv fv (hk fl fk fd fw lot 1 day on nf) = _; rw [e1]; exact kv_k (by omega)
        rcases hk_ix (fl := fl) (fk := fk) (fd := fd) (fw := fw) (lot := lot) (kind := 2) (day := day) (on := on) nf with e2 | ⟨i2, hi2, e2, hh2⟩
        · have hK2 : (mK nf fl fk fd fw fv lot day on) 2 = none := by show kv fv (hk fl fk fd fw lot 2 day on nf) = _; rw [e2]; rfl
          have hrk : rk (mK nf fl fk fd fw fv lot day on) (mE ne ef rr rm day) = (2, d0) := by rw [hed]; show rkE _ _ _ = _; unfold rkE; simp only [hK0, hK1, hK2]
          refine lv_aload_n hx hb d_MO_reckon_0 rfl (lv_at hl 0 rfl) ?_
          refine lv_iconst (v := 0) hx hb d_MO_reckon_1 (by decide) ?_
          refine f_put (C := "DutyRulesModel") (T := T_MO) (N := 40) (fs' := mo (va_up mf 18 (.int 0))) (v := .int 0) hx hb (fun w q => hT w (s_MO w q)) t_MO k_MO n_MO hown hK hI g_x (by decide) rfl 18 (by decide) (hT _ w_827) (fun _ q => q) rfl rfl rfl (by rw [mo_len]; decide) (mo_set _) d_MO_reckon_2 (fun H locs hI => ?_)
          generalize emf_46 : va_up mf 18 (.int 0) = mf_46 at hI
          have v_11 : mf_46 11 = .ref a11 := by rw [← emf_46, va_up_ne _ _ (by decide)]; exact v_11
          have v_14 : mf_46 14 = .int rs := by rw [← emf_46, va_up_ne _ _ (by decide)]; exact v_14
          have v_15 : mf_46 15 = .ref a15 := by rw [← emf_46, va_up_ne _ _ (by decide)]; exact v_15
          have v_16 : mf_46 16 = .ref a16 := by rw [← emf_46, va_up_ne _ _ (by decide)]; exact v_16
          have v_17 : mf_46 17 = .ref a17 := by rw [← emf_46, va_up_ne _ _ (by decide)]; exact v_17
          have v_19 : mf_46 19 = .long (lN fr) := by rw [← emf_46, va_up_ne _ _ (by decide)]; exact v_19
          have v_20 : mf_46 20 = .long (lN ce) := by rw [← emf_46, va_up_ne _ _ (by decide)]; exact v_20
          have v_18 : mf_46 18 = .int 0 := by rw [← emf_46, va_up_self]
          generalize eh_47 : fU h x (40, 0, .inr (8, mo mf_46)) = h_47 at hI
          have hX := hX.set (e := .inr (8, mo mf_46)) g_x (by decide); rw [eh_47] at hX
          have hF := hF.set (e := .inr (8, mo mf_46)) g_x (by decide); rw [eh_47] at hF
          have g_a15 : h_47 a15 = some (56, 0, .inl ((G.2.1 0), 5, .inl (fun i => nI (sl i)))) := by rw [← eh_47]; exact fU_keep g_a15 (f_neR g_a15 g_x (by decide))
          have g_a16 : h_47 a16 = some (57, 0, .inl ((G.2.1 0), 5, .inl (fun i => nI (sr i)))) := by rw [← eh_47]; exact fU_keep g_a16 (f_neR g_a16 g_x (by decide))
          have g_a17 : h_47 a17 = some (58, 0, .inl ((G.2.1 1), 5, .inr (.inl (fun i => lN (sc i))))) := by rw [← eh_47]; exact fU_keep g_a17 (f_neR g_a17 g_x (by decide))
          have g_a11 : h_47 a11 = some (52, 0, .inl ((G.2.1 1), 300, .inr (.inl (fun i => lN (fv i))))) := by rw [← eh_47]; exact fU_keep g_a11 (f_neR g_a11 g_x (by decide))
          have hW9 : fF (inR [40]) h h_47 := by rw [← eh_47]; exact fF.rf.set g_x (by decide)
          have g_x : h_47 x = some (40, 0, .inr (8, mo mf_46)) := by rw [← eh_47]; exact fU_self _ _ _
          have hFc := mFc.keep (mf' := mf_46) hFc (fun j _ _ => by rw [← emf_46]; exact va_up_ne _ _ (by omega)) hW9 (by decide)
          have hEd := mEd.keep (mf' := mf_46) hEd (fun j _ _ => by rw [← emf_46]; exact va_up_ne _ _ (by omega)) hW9 (by decide)
          have hm1 : ∀ j, j < 14 ∨ 20 < j → mf_46 j = mf j := fun j hj => by rw [← emf_46, va_up_ne _ _ (by omega)]; exact hm1 j hj
          refine lv_aload_n hx hb d_MO_reckon_5 rfl (lv_at hl 0 rfl) ?_
          refine lv_lconst (v := 0) hx hb d_MO_reckon_6 (by decide) ?_
          refine f_put (C := "DutyRulesModel") (T := T_MO) (N := 40) (fs' := mo (va_up mf_46 19 (.long 0))) (v := .long 0) hx hb (fun w q => hT w (s_MO w q)) t_MO k_MO n_MO hown hK hI g_x (by decide) rfl 19 (by decide) (hT _ w_828) (fun _ q => q) rfl rfl rfl (by rw [mo_len]; decide) (mo_set _) d_MO_reckon_7 (fun H locs hI => ?_)
          generalize emf_48 : va_up mf_46 19 (.long 0) = mf_48 at hI
          have v_11 : mf_48 11 = .ref a11 := by rw [← emf_48, va_up_ne _ _ (by decide)]; exact v_11
          have v_14 : mf_48 14 = .int rs := by rw [← emf_48, va_up_ne _ _ (by decide)]; exact v_14
          have v_15 : mf_48 15 = .ref a15 := by rw [← emf_48, va_up_ne _ _ (by decide)]; exact v_15
          have v_16 : mf_48 16 = .ref a16 := by rw [← emf_48, va_up_ne _ _ (by decide)]; exact v_16
          have v_17 : mf_48 17 = .ref a17 := by rw [← emf_48, va_up_ne _ _ (by decide)]; exact v_17
          have v_18 : mf_48 18 = .int 0 := by rw [← emf_48, va_up_ne _ _ (by decide)]; exact v_18
          have v_20 : mf_48 20 = .long (lN ce) := by rw [← emf_48, va_up_ne _ _ (by decide)]; exact v_20
          have v_19 : mf_48 19 = .long 0 := by rw [← emf_48, va_up_self]
          generalize eh_49 : fU h_47 x (40, 0, .inr (8, mo mf_48)) = h_49 at hI
          have hX := hX.set (e := .inr (8, mo mf_48)) g_x (by decide); rw [eh_49] at hX
          have hF := hF.set (e := .inr (8, mo mf_48)) g_x (by decide); rw [eh_49] at hF
          have g_a15 : h_49 a15 = some (56, 0, .inl ((G.2.1 0), 5, .inl (fun i => nI (sl i)))) := by rw [← eh_49]; exact fU_keep g_a15 (f_neR g_a15 g_x (by decide))
          have g_a16 : h_49 a16 = some (57, 0, .inl ((G.2.1 0), 5, .inl (fun i => nI (sr i)))) := by rw [← eh_49]; exact fU_keep g_a16 (f_neR g_a16 g_x (by decide))
          have g_a17 : h_49 a17 = some (58, 0, .inl ((G.2.1 1), 5, .inr (.inl (fun i => lN (sc i))))) := by rw [← eh_49]; exact fU_keep g_a17 (f_neR g_a17 g_x (by decide))
          have g_a11 : h_49 a11 = some (52, 0, .inl ((G.2.1 1), 300, .inr (.inl (fun i => lN (fv i))))) := by rw [← eh_49]; exact fU_keep g_a11 (f_neR g_a11 g_x (by decide))
          have hW9 : fF (inR [40]) h_47 h_49 := by rw [← eh_49]; exact fF.rf.set g_x (by decide)
          have g_x : h_49 x = some (40, 0, .inr (8, mo mf_48)) := by rw [← eh_49]; exact fU_self _ _ _
          have hFc := mFc.keep (mf' := mf_48) hFc (fun j _ _ => by rw [← emf_48]; exact va_up_ne _ _ (by omega)) hW9 (by decide)
          have hEd := mEd.keep (mf' := mf_48) hEd (fun j _ _ => by rw [← emf_48]; exact va_up_ne _ _ (by omega)) hW9 (by decide)
          have hm1 : ∀ j, j < 14 ∨ 20 < j → mf_48 j = mf j := fun j hj => by rw [← emf_48, va_up_ne _ _ (by omega)]; exact hm1 j hj
          refine lv_aload_n hx hb d_MO_reckon_10 rfl (lv_at hl 0 rfl) ?_
          refine lv_lconst (v := 0) hx hb d_MO_reckon_11 (by decide) ?_
          refine f_put (C := "DutyRulesModel") (T := T_MO) (N := 40) (fs' := mo (va_up mf_48 20 (.long 0))) (v := .long 0) hx hb (fun w q => hT w (s_MO w q)) t_MO k_MO n_MO hown hK hI g_x (by decide) rfl 20 (by decide) (hT _ w_829) (fun _ q => q) rfl rfl rfl (by rw [mo_len]; decide) (mo_set _) d_MO_reckon_12 (fun H locs hI => ?_)
          generalize emf_50 : va_up mf_48 20 (.long 0) = mf_50 at hI
          have v_11 : mf_50 11 = .ref a11 := by rw [← emf_50, va_up_ne _ _ (by decide)]; exact v_11
          have v_14 : mf_50 14 = .int rs := by rw [← emf_50, va_up_ne _ _ (by decide)]; exact v_14
          have v_15 : mf_50 15 = .ref a15 := by rw [← emf_50, va_up_ne _ _ (by decide)]; exact v_15
          have v_16 : mf_50 16 = .ref a16 := by rw [← emf_50, va_up_ne _ _ (by decide)]; exact v_16
          have v_17 : mf_50 17 = .ref a17 := by rw [← emf_50, va_up_ne _ _ (by decide)]; exact v_17
          have v_18 : mf_50 18 = .int 0 := by rw [← emf_50, va_up_ne _ _ (by decide)]; exact v_18
          have v_19 : mf_50 19 = .long 0 := by rw [← emf_50, va_up_ne _ _ (by decide)]; exact v_19
          have v_20 : mf_50 20 = .long 0 := by rw [← emf_50, va_up_self]
          generalize eh_51 : fU h_49 x (40, 0, .inr (8, mo mf_50)) = h_51 at hI
          have hX := hX.set (e := .inr (8, mo mf_50)) g_x (by decide); rw [eh_51] at hX
          have hF := hF.set (e := .inr (8, mo mf_50)) g_x (by decide); rw [eh_51] at hF
          have g_a15 : h_51 a15 = some (56, 0, .inl ((G.2.1 0), 5, .inl (fun i => nI (sl i)))) := by rw [← eh_51]; exact fU_keep g_a15 (f_neR g_a15 g_x (by decide))
          have g_a16 : h_51 a16 = some (57, 0, .inl ((G.2.1 0), 5, .inl (fun i => nI (sr i)))) := by rw [← eh_51]; exact fU_keep g_a16 (f_neR g_a16 g_x (by decide))
          have g_a17 : h_51 a17 = some (58, 0, .inl ((G.2.1 1), 5, .inr (.inl (fun i => lN (sc i))))) := by rw [← eh_51]; exact fU_keep g_a17 (f_neR g_a17 g_x (by decide))
          have g_a11 : h_51 a11 = some (52, 0, .inl ((G.2.1 1), 300, .inr (.inl (fun i => lN (fv i))))) := by rw [← eh_51]; exact fU_keep g_a11 (f_neR g_a11 g_x (by decide))
          have hW9 : fF (inR [40]) h_49 h_51 := by rw [← eh_51]; exact fF.rf.set g_x (by decide)
          have g_x : h_51 x = some (40, 0, .inr (8, mo mf_50)) := by rw [← eh_51]; exact fU_self _ _ _
          have hFc := mFc.keep (mf' := mf_50) hFc (fun j _ _ => by rw [← emf_50]; exact va_up_ne _ _ (by omega)) hW9 (by decide)
          have hEd := mEd.keep (mf' := mf_50) hEd (fun j _ _ => by rw [← emf_50]; exact va_up_ne _ _ (by omega)) hW9 (by decide)
          have hm1 : ∀ j, j < 14 ∨ 20 < j → mf_50 j = mf j := fun j hj => by rw [← emf_50, va_up_ne _ _ (by omega)]; exact hm1 j hj
          refine lv_aload_n hx hb d_MO_reckon_15 rfl (lv_at hl 0 rfl) ?_
          refine lv_lload_n hx hb d_MO_reckon_16 rfl (lv_at hl 2 rfl) ?_
          refine f_calli hI (f_runV C hI (c_MO_editionOf l G h_51 _ x day mf_50 g_x ne ef rr rm hEd (by omega)) gm_MO_editionOf w_1024 p_MO_editionOf w_1022 g_x rfl rfl rfl hl.1 rfl (Nat.le_of_ble_eq_true rfl) ⟨Nat.le_of_ble_eq_true rfl, Nat.le_of_ble_eq_true rfl⟩ d_MO_reckon_17 ⟨Nat.le_of_ble_eq_true rfl, Nat.le_of_ble_eq_true rfl⟩) (fun r_52 h9 H9 locs hp9 hX9 hz9 hI => ?_)
          obtain ⟨rfl, e9⟩ := hp9
          rw [e9] at hI
          clear hX9 e9
          rw [en]
          refine lv_istore (lv' := [(6, .int (nI e1)), (0, .ref x), (1, .int (nI lot)), (2, .long (lN day)), (4, .long (lN on))]) hx hb d_MO_reckon_20 hl (by decide) rfl (fun ls hl => ?_)
          refine lv_aload_n hx hb d_MO_reckon_22 rfl (lv_at hl 1 rfl) ?_
          refine lv_bipush (v := 20) hx hb d_MO_reckon_23 (by decide) ?_
          refine f_put (C := "DutyRulesModel") (T := T_MO) (N := 40) (fs' := mo (va_up mf_50 14 (.int 20))) (v := .int 20) hx hb (fun w q => hT w (s_MO w q)) t_MO k_MO n_MO hown hK hI g_x (by decide) rfl 14 (by decide) (hT _ w_823) (fun _ q => q) rfl rfl rfl (by rw [mo_len]; decide) (mo_set _) d_MO_reckon_25 (fun H locs hI => ?_)
          generalize emf_53 : va_up mf_50 14 (.int 20) = mf_53 at hI
          have v_11 : mf_53 11 = .ref a11 := by rw [← emf_53, va_up_ne _ _ (by decide)]; exact v_11
          have v_15 : mf_53 15 = .ref a15 := by rw [← emf_53, va_up_ne _ _ (by decide)]; exact v_15
          have v_16 : mf_53 16 = .ref a16 := by rw [← emf_53, va_up_ne _ _ (by decide)]; exact v_16
          have v_17 : mf_53 17 = .ref a17 := by rw [← emf_53, va_up_ne _ _ (by decide)]; exact v_17
          have v_18 : mf_53 18 = .int 0 := by rw [← emf_53, va_up_ne _ _ (by decide)]; exact v_18
          have v_19 : mf_53 19 = .long 0 := by rw [← emf_53, va_up_ne _ _ (by decide)]; exact v_19
          have v_20 : mf_53 20 = .long 0 := by rw [← emf_53, va_up_ne _ _ (by decide)]; exact v_20
          have v_14 : mf_53 14 = .int 20 := by rw [← emf_53, va_up_self]
          generalize eh_54 : fU h_51 x (40, 0, .inr (8, mo mf_53)) = h_54 at hI
          have hX := hX.set (e := .inr (8, mo mf_53)) g_x (by decide); rw [eh_54] at hX
          have hF := hF.set (e := .inr (8, mo mf_53)) g_x (by decide); rw [eh_54] at hF
          have g_a15 : h_54 a15 = some (56, 0, .inl ((G.2.1 0), 5, .inl (fun i => nI (sl i)))) := by rw [← eh_54]; exact fU_keep g_a15 (f_neR g_a15 g_x (by decide))
          have g_a16 : h_54 a16 = some (57, 0, .inl ((G.2.1 0), 5, .inl (fun i => nI (sr i)))) := by rw [← eh_54]; exact fU_keep g_a16 (f_neR g_a16 g_x (by decide))
          have g_a17 : h_54 a17 = some (58, 0, .inl ((G.2.1 1), 5, .inr (.inl (fun i => lN (sc i))))) := by rw [← eh_54]; exact fU_keep g_a17 (f_neR g_a17 g_x (by decide))
          have g_a11 : h_54 a11 = some (52, 0, .inl ((G.2.1 1), 300, .inr (.inl (fun i => lN (fv i))))) := by rw [← eh_54]; exact fU_keep g_a11 (f_neR g_a11 g_x (by decide))
          have hW9 : fF (inR [40]) h_51 h_54 := by rw [← eh_54]; exact fF.rf.set g_x (by decide)
          have g_x : h_54 x = some (40, 0, .inr (8, mo mf_53)) := by rw [← eh_54]; exact fU_self _ _ _
          have hFc := mFc.keep (mf' := mf_53) hFc (fun j _ _ => by rw [← emf_53]; exact va_up_ne _ _ (by omega)) hW9 (by decide)
          have hEd := mEd.keep (mf' := mf_53) hEd (fun j _ _ => by rw [← emf_53]; exact va_up_ne _ _ (by omega)) hW9 (by decide)
          have hm1 : ∀ j, j < 14 ∨ 20 < j → mf_53 j = mf j := fun j hj => by rw [← emf_53, va_up_ne _ _ (by omega)]; exact hm1 j hj
          refine lv_iload hx hb d_MO_reckon_28 (lv_at hl 0 rfl) ?_
          refine lv_iconst (v := (-1)) hx hb d_MO_reckon_30 (by decide) ?_
          refine lv_icmp_ne (tgt := 36) hx hb d_MO_reckon_31 (by decide) (fun c_55 => ?_) (fun c_55 => absurd c_55 (n_m1 (by omega)))
          refine lv_iconst (v := 0) hx hb d_MO_reckon_36 (by decide) ?_
          refine lv_istore (lv' := [(7, .int 0), (6, .int (nI e1)), (0, .ref x), (1, .int (nI lot)), (2, .long (lN day)), (4, .long (lN on))]) hx hb d_MO_reckon_37 hl (by decide) rfl (fun ls hl => ?_)
          refine lv_iload hx hb d_MO_reckon_39 (lv_at hl 0 rfl) ?_
          refine lv_iconst (v := 3) hx hb d_MO_reckon_41 (by decide) ?_
          refine lv_icmp_ge (tgt := 73) hx hb d_MO_reckon_42 (by decide) (fun c_56 => absurd c_56 (by decide)) (fun c_56 => ?_)
          refine lv_aload_n hx hb d_MO_reckon_45 rfl (lv_at hl 2 rfl) ?_
          refine lv_iload hx hb d_MO_reckon_46 (lv_at hl 0 rfl) ?_
          refine f_put (C := "DutyRulesModel") (T := T_MO) (N := 40) (fs' := mo (va_up mf_53 14 (.int 0))) (v := .int 0) hx hb (fun w q => hT w (s_MO w q)) t_MO k_MO n_MO hown hK hI g_x (by decide) rfl 14 (by decide) (hT _ w_823) (fun _ q => q) rfl rfl rfl (by rw [mo_len]; decide) (mo_set _) d_MO_reckon_48 (fun H locs hI => ?_)
          generalize emf_57 : va_up mf_53 14 (.int 0) = mf_57 at hI
          have v_11 : mf_57 11 = .ref a11 := by rw [← emf_57, va_up_ne _ _ (by decide)]; exact v_11
          have v_15 : mf_57 15 = .ref a15 := by rw [← emf_57, va_up_ne _ _ (by decide)]; exact v_15
          have v_16 : mf_57 16 = .ref a16 := by rw [← emf_57, va_up_ne _ _ (by decide)]; exact v_16
          have v_17 : mf_57 17 = .ref a17 := by rw [← emf_57, va_up_ne _ _ (by decide)]; exact v_17
          have v_18 : mf_57 18 = .int 0 := by rw [← emf_57, va_up_ne _ _ (by decide)]; exact v_18
          have v_19 : mf_57 19 = .long 0 := by rw [← emf_57, va_up_ne _ _ (by decide)]; exact v_19
          have v_20 : mf_57 20 = .long 0 := by rw [← emf_57, va_up_ne _ _ (by decide)]; exact v_20
          have v_14 : mf_57 14 = .int 0 := by rw [← emf_57, va_up_self]
          generalize eh_58 : fU h_54 x (40, 0, .inr (8, mo mf_57)) = h_58 at hI
          have hX := hX.set (e := .inr (8, mo mf_57)) g_x (by decide); rw [eh_58] at hX
          have hF := hF.set (e := .inr (8, mo mf_57)) g_x (by decide); rw [eh_58] at hF
          have g_a15 : h_58 a15 = some (56, 0, .inl ((G.2.1 0), 5, .inl (fun i => nI (sl i)))) := by rw [← eh_58]; exact fU_keep g_a15 (f_neR g_a15 g_x (by decide))
          have g_a16 : h_58 a16 = some (57, 0, .inl ((G.2.1 0), 5, .inl (fun i => nI (sr i)))) := by rw [← eh_58]; exact fU_keep g_a16 (f_neR g_a16 g_x (by decide))
          have g_a17 : h_58 a17 = some (58, 0, .inl ((G.2.1 1), 5, .inr (.inl (fun i => lN (sc i))))) := by rw [← eh_58]; exact fU_keep g_a17 (f_neR g_a17 g_x (by decide))
          have g_a11 : h_58 a11 = some (52, 0, .inl ((G.2.1 1), 300, .inr (.inl (fun i => lN (fv i))))) := by rw [← eh_58]; exact fU_keep g_a11 (f_neR g_a11 g_x (by decide))
          have hW9 : fF (inR [40]) h_54 h_58 := by rw [← eh_58]; exact fF.rf.set g_x (by decide)
          have g_x : h_58 x = some (40, 0, .inr (8, mo mf_57)) := by rw [← eh_58]; exact fU_self _ _ _
          have hFc := mFc.keep (mf' := mf_57) hFc (fun j _ _ => by rw [← emf_57]; exact va_up_ne _ _ (by omega)) hW9 (by decide)
          have hEd := mEd.keep (mf' := mf_57) hEd (fun j _ _ => by rw [← emf_57]; exact va_up_ne _ _ (by omega)) hW9 (by decide)
          have hm1 : ∀ j, j < 14 ∨ 20 < j → mf_57 j = mf j := fun j hj => by rw [← emf_57, va_up_ne _ _ (by omega)]; exact hm1 j hj
          refine lv_aload_n hx hb d_MO_reckon_51 rfl (lv_at hl 2 rfl) ?_
          refine lv_iload_n hx hb d_MO_reckon_52 rfl (lv_at hl 3 rfl) ?_
          refine lv_iload hx hb d_MO_reckon_53 (lv_at hl 0 rfl) ?_
          refine lv_lload_n hx hb d_MO_reckon_55 rfl (lv_at hl 4 rfl) ?_
          refine lv_lload hx hb d_MO_reckon_56 (lv_at hl 5 rfl) ?_
          refine f_calli hI (f_runV C hI (c_MO_holds l G h_58 _ x nf lot 0 day on fl fk fd fw fv mf_57 g_x hFc (by omega) (by omega) (by omega) (by omega)) gm_MO_holds w_1028 p_MO_holds w_1026 g_x rfl rfl rfl hl.1 rfl (Nat.le_of_ble_eq_true rfl) ⟨Nat.le_of_ble_eq_true rfl, Nat.le_of_ble_eq_true rfl⟩ d_MO_reckon_58 ⟨Nat.le_of_ble_eq_true rfl, Nat.le_of_ble_eq_true rfl⟩) (fun r_59 h9 H9 locs hp9 hX9 hz9 hI => ?_)
          obtain ⟨rfl, e9⟩ := hp9
          rw [e9] at hI
          clear hX9 e9
          rw [e0, bI_k (by omega)]
          refine lv_iconst (v := (-1)) hx hb d_MO_reckon_61 (by decide) ?_
          refine lv_icmp_ne (tgt := 67) hx hb d_MO_reckon_62 (by decide) (fun c_60 => ?_) (fun c_60 => absurd c_60 (n_m1 (by omega)))
          refine lv_iinc (v := 1) (lv' := [(7, .int 1), (6, .int (nI e1)), (0, .ref x), (1, .int (nI lot)), (2, .long (lN day)), (4, .long (lN on))]) hx hb d_MO_reckon_67 hl (k := 0) rfl (by decide) (by decide) rfl (fun ls hl => ?_)
          refine lv_goto (tgt := 39) hx hb d_MO_reckon_70 (by decide) ?_
          refine lv_iload hx hb d_MO_reckon_39 (lv_at hl 0 rfl) ?_
          refine lv_iconst (v := 3) hx hb d_MO_reckon_41 (by decide) ?_
          refine lv_icmp_ge (tgt := 73) hx hb d_MO_reckon_42 (by decide) (fun c_61 => absurd c_61 (by decide)) (fun c_61 => ?_)
          refine lv_aload_n hx hb d_MO_reckon_45 rfl (lv_at hl 2 rfl) ?_
          refine lv_iload hx hb d_MO_reckon_46 (lv_at hl 0 rfl) ?_
          refine f_put (C := "DutyRulesModel") (T := T_MO) (N := 40) (fs' := mo (va_up mf_57 14 (.int 1))) (v := .int 1) hx hb (fun w q => hT w (s_MO w q)) t_MO k_MO n_MO hown hK hI g_x (by decide) rfl 14 (by decide) (hT _ w_823) (fun _ q => q) rfl rfl rfl (by rw [mo_len]; decide) (mo_set _) d_MO_reckon_48 (fun H locs hI => ?_)
          generalize emf_62 : va_up mf_57 14 (.int 1) = mf_62 at hI
          have v_11 : mf_62 11 = .ref a11 := by rw [← emf_62, va_up_ne _ _ (by decide)]; exact v_11
          have v_15 : mf_62 15 = .ref a15 := by rw [← emf_62, va_up_ne _ _ (by decide)]; exact v_15
          have v_16 : mf_62 16 = .ref a16 := by rw [← emf_62, va_up_ne _ _ (by decide)]; exact v_16
          have v_17 : mf_62 17 = .ref a17 := by rw [← emf_62, va_up_ne _ _ (by decide)]; exact v_17
          have v_18 : mf_62 18 = .int 0 := by rw [← emf_62, va_up_ne _ _ (by decide)]; exact v_18
          have v_19 : mf_62 19 = .long 0 := by rw [← emf_62, va_up_ne _ _ (by decide)]; exact v_19
          have v_20 : mf_62 20 = .long 0 := by rw [← emf_62, va_up_ne _ _ (by decide)]; exact v_20
          have v_14 : mf_62 14 = .int 1 := by rw [← emf_62, va_up_self]
          generalize eh_63 : fU h_58 x (40, 0, .inr (8, mo mf_62)) = h_63 at hI
          have hX := hX.set (e := .inr (8, mo mf_62)) g_x (by decide); rw [eh_63] at hX
          have hF := hF.set (e := .inr (8, mo mf_62)) g_x (by decide); rw [eh_63] at hF
          have g_a15 : h_63 a15 = some (56, 0, .inl ((G.2.1 0), 5, .inl (fun i => nI (sl i)))) := by rw [← eh_63]; exact fU_keep g_a15 (f_neR g_a15 g_x (by decide))
          have g_a16 : h_63 a16 = some (57, 0, .inl ((G.2.1 0), 5, .inl (fun i => nI (sr i)))) := by rw [← eh_63]; exact fU_keep g_a16 (f_neR g_a16 g_x (by decide))
          have g_a17 : h_63 a17 = some (58, 0, .inl ((G.2.1 1), 5, .inr (.inl (fun i => lN (sc i))))) := by rw [← eh_63]; exact fU_keep g_a17 (f_neR g_a17 g_x (by decide))
          have g_a11 : h_63 a11 = some (52, 0, .inl ((G.2.1 1), 300, .inr (.inl (fun i => lN (fv i))))) := by rw [← eh_63]; exact fU_keep g_a11 (f_neR g_a11 g_x (by decide))
          have hW9 : fF (inR [40]) h_58 h_63 := by rw [← eh_63]; exact fF.rf.set g_x (by decide)
          have g_x : h_63 x = some (40, 0, .inr (8, mo mf_62)) := by rw [← eh_63]; exact fU_self _ _ _
          have hFc := mFc.keep (mf' := mf_62) hFc (fun j _ _ => by rw [← emf_62]; exact va_up_ne _ _ (by omega)) hW9 (by decide)
          have hEd := mEd.keep (mf' := mf_62) hEd (fun j _ _ => by rw [← emf_62]; exact va_up_ne _ _ (by omega)) hW9 (by decide)
          have hm1 : ∀ j, j < 14 ∨ 20 < j → mf_62 j = mf j := fun j hj => by rw [← emf_62, va_up_ne _ _ (by omega)]; exact hm1 j hj
          refine lv_aload_n hx hb d_MO_reckon_51 rfl (lv_at hl 2 rfl) ?_
          refine lv_iload_n hx hb d_MO_reckon_52 rfl (lv_at hl 3 rfl) ?_
          refine lv_iload hx hb d_MO_reckon_53 (lv_at hl 0 rfl) ?_
          refine lv_lload_n hx hb d_MO_reckon_55 rfl (lv_at hl 4 rfl) ?_
          refine lv_lload hx hb d_MO_reckon_56 (lv_at hl 5 rfl) ?_
          refine f_calli hI (f_runV C hI (c_MO_holds l G h_63 _ x nf lot 1 day on fl fk fd fw fv mf_62 g_x hFc (by omega) (by omega) (by omega) (by omega)) gm_MO_holds w_1028 p_MO_holds w_1026 g_x rfl rfl rfl hl.1 rfl (Nat.le_of_ble_eq_true rfl) ⟨Nat.le_of_ble_eq_true rfl, Nat.le_of_ble_eq_true rfl⟩ d_MO_reckon_58 ⟨Nat.le_of_ble_eq_true rfl, Nat.le_of_ble_eq_true rfl⟩) (fun r_64 h9 H9 locs hp9 hX9 hz9 hI => ?_)
          obtain ⟨rfl, e9⟩ := hp9
          rw [e9] at hI
          clear hX9 e9
          rw [e1, bI_k (by omega)]
          refine lv_iconst (v := (-1)) hx hb d_MO_reckon_61 (by decide) ?_
          refine lv_icmp_ne (tgt := 67) hx hb d_MO_reckon_62 (by decide) (fun c_65 => ?_) (fun c_65 => absurd c_65 (n_m1 (by omega)))
          refine lv_iinc (v := 2) (lv' := [(7, .int 2), (6, .int (nI e1)), (0, .ref x), (1, .int (nI lot)), (2, .long (lN day)), (4, .long (lN on))]) hx hb d_MO_reckon_67 hl (k := 0) rfl (by decide) (by decide) rfl (fun ls hl => ?_)
          refine lv_goto (tgt := 39) hx hb d_MO_reckon_70 (by decide) ?_
          refine lv_iload hx hb d_MO_reckon_39 (lv_at hl 0 rfl) ?_
          refine lv_iconst (v := 3) hx hb d_MO_reckon_41 (by decide) ?_
          refine lv_icmp_ge (tgt := 73) hx hb d_MO_reckon_42 (by decide) (fun c_66 => absurd c_66 (by decide)) (fun c_66 => ?_)
          refine lv_aload_n hx hb d_MO_reckon_45 rfl (lv_at hl 2 rfl) ?_
          refine lv_iload hx hb d_MO_reckon_46 (lv_at hl 0 rfl) ?_
          refine f_put (C := "DutyRulesModel") (T := T_MO) (N := 40) (fs' := mo (va_up mf_62 14 (.int 2))) (v := .int 2) hx hb (fun w q => hT w (s_MO w q)) t_MO k_MO n_MO hown hK hI g_x (by decide) rfl 14 (by decide) (hT _ w_823) (fun _ q => q) rfl rfl rfl (by rw [mo_len]; decide) (mo_set _) d_MO_reckon_48 (fun H locs hI => ?_)
          generalize emf_67 : va_up mf_62 14 (.int 2) = mf_67 at hI
          have v_11 : mf_67 11 = .ref a11 := by rw [← emf_67, va_up_ne _ _ (by decide)]; exact v_11
          have v_15 : mf_67 15 = .ref a15 := by rw [← emf_67, va_up_ne _ _ (by decide)]; exact v_15
          have v_16 : mf_67 16 = .ref a16 := by rw [← emf_67, va_up_ne _ _ (by decide)]; exact v_16
          have v_17 : mf_67 17 = .ref a17 := by rw [← emf_67, va_up_ne _ _ (by decide)]; exact v_17
          have v_18 : mf_67 18 = .int 0 := by rw [← emf_67, va_up_ne _ _ (by decide)]; exact v_18
          have v_19 : mf_67 19 = .long 0 := by rw [← emf_67, va_up_ne _ _ (by decide)]; exact v_19
          have v_20 : mf_67 20 = .long 0 := by rw [← emf_67, va_up_ne _ _ (by decide)]; exact v_20
          have v_14 : mf_67 14 = .int 2 := by rw [← emf_67, va_up_self]
          generalize eh_68 : fU h_63 x (40, 0, .inr (8, mo mf_67)) = h_68 at hI
          have hX := hX.set (e := .inr (8, mo mf_67)) g_x (by decide); rw [eh_68] at hX
          have hF := hF.set (e := .inr (8, mo mf_67)) g_x (by decide); rw [eh_68] at hF
          have g_a15 : h_68 a15 = some (56, 0, .inl ((G.2.1 0), 5, .inl (fun i => nI (sl i)))) := by rw [← eh_68]; exact fU_keep g_a15 (f_neR g_a15 g_x (by decide))
          have g_a16 : h_68 a16 = some (57, 0, .inl ((G.2.1 0), 5, .inl (fun i => nI (sr i)))) := by rw [← eh_68]; exact fU_keep g_a16 (f_neR g_a16 g_x (by decide))
          have g_a17 : h_68 a17 = some (58, 0, .inl ((G.2.1 1), 5, .inr (.inl (fun i => lN (sc i))))) := by rw [← eh_68]; exact fU_keep g_a17 (f_neR g_a17 g_x (by decide))
          have g_a11 : h_68 a11 = some (52, 0, .inl ((G.2.1 1), 300, .inr (.inl (fun i => lN (fv i))))) := by rw [← eh_68]; exact fU_keep g_a11 (f_neR g_a11 g_x (by decide))
          have hW9 : fF (inR [40]) h_63 h_68 := by rw [← eh_68]; exact fF.rf.set g_x (by decide)
          have g_x : h_68 x = some (40, 0, .inr (8, mo mf_67)) := by rw [← eh_68]; exact fU_self _ _ _
          have hFc := mFc.keep (mf' := mf_67) hFc (fun j _ _ => by rw [← emf_67]; exact va_up_ne _ _ (by omega)) hW9 (by decide)
          have hEd := mEd.keep (mf' := mf_67) hEd (fun j _ _ => by rw [← emf_67]; exact va_up_ne _ _ (by omega)) hW9 (by decide)
          have hm1 : ∀ j, j < 14 ∨ 20 < j → mf_67 j = mf j := fun j hj => by rw [← emf_67, va_up_ne _ _ (by omega)]; exact hm1 j hj
          refine lv_aload_n hx hb d_MO_reckon_51 rfl (lv_at hl 2 rfl) ?_
          refine lv_iload_n hx hb d_MO_reckon_52 rfl (lv_at hl 3 rfl) ?_
          refine lv_iload hx hb d_MO_reckon_53 (lv_at hl 0 rfl) ?_
          refine lv_lload_n hx hb d_MO_reckon_55 rfl (lv_at hl 4 rfl) ?_
          refine lv_lload hx hb d_MO_reckon_56 (lv_at hl 5 rfl) ?_
          refine f_calli hI (f_runV C hI (c_MO_holds l G h_68 _ x nf lot 2 day on fl fk fd fw fv mf_67 g_x hFc (by omega) (by omega) (by omega) (by omega)) gm_MO_holds w_1028 p_MO_holds w_1026 g_x rfl rfl rfl hl.1 rfl (Nat.le_of_ble_eq_true rfl) ⟨Nat.le_of_ble_eq_true rfl, Nat.le_of_ble_eq_true rfl⟩ d_MO_reckon_58 ⟨Nat.le_of_ble_eq_true rfl, Nat.le_of_ble_eq_true rfl⟩) (fun r_69 h9 H9 locs hp9 hX9 hz9 hI => ?_)
          obtain ⟨rfl, e9⟩ := hp9
          rw [e9] at hI
          clear hX9 e9
          rw [e2, bI_0]
          refine lv_iconst (v := (-1)) hx hb d_MO_reckon_61 (by decide) ?_
          refine lv_icmp_ne (tgt := 67) hx hb d_MO_reckon_62 (by decide) (fun c_70 => absurd rfl c_70) (fun c_70 => ?_)
          refine lv_iconst (v := 0) hx hb d_MO_reckon_65 (by decide) ?_
          exact f_zret C hr rfl hI ⟨by rw [hrk]; rfl, mf_67, g_x, hm1, by rw [hrk]; exact ⟨sl, sr, sc, ⟨a15, a16, a17, ⟨v_14, v_15, v_16, v_17, v_18, v_19, v_20⟩, ⟨g_a15, g_a16, g_a17⟩⟩, fun i q hi => by simp [d0] at hi⟩, hF⟩ hX (Nat.le_refl _) (Nat.le_refl _) d_MO_reckon_66
        · have hK2 : (mK nf fl fk fd fw fv lot day on) 2 = some (fv i2) := by show kv fv (hk fl fk fd fw lot 2 day on nf) = _; rw [e2]; exact kv_k (by omega)
          have hg0 : fv i0 ≤ 9 := by have := bfv0 i0; rw [hh0.2.1] at this; exact this
          have hg1 : fv i1 ≤ 10000 := by have := bfv0 i1; rw [hh1.2.1] at this; exact this
          have hg2 : fv i2 ≤ 1000000 := by have := bfv0 i2; rw [hh2.2.1] at this; exact this
          rcases eR : ff (fp rr e1 0 (fv i0) (fv i1)) 0 (rm e1) with _ | rate
          · have hrk : rk (mK nf fl fk fd fw fv lot day on) (mE ne ef rr rm day) = (21, d0) := by rw [hed]; show rkE _ _ _ = _; unfold rkE; simp only [hK0, hK1, hK2]; rw [show mF rr rm e1 0 (fv i0) (fv i1) = none from eR]
            refine lv_aload_n hx hb d_MO_reckon_0 rfl (lv_at hl 0 rfl) ?_
            refine lv_iconst (v := 0) hx hb d_MO_reckon_1 (by decide) ?_
            refine f_put (C := "DutyRulesModel") (T := T_MO) (N := 40) (fs' := mo (va_up mf 18 (.int 0))) (v := .int 0) hx hb (fun w q => hT w (s_MO w q)) t_MO k_MO n_MO hown hK hI g_x (by decide) rfl 18 (by decide) (hT _ w_827) (fun _ q => q) rfl rfl rfl (by rw [mo_len]; decide) (mo_set _) d_MO_reckon_2 (fun H locs hI => ?_)
            generalize emf_71 : va_up mf 18 (.int 0) = mf_71 at hI
            have v_11 : mf_71 11 = .ref a11 := by rw [← emf_71, va_up_ne _ _ (by decide)]; exact v_11
            have v_14 : mf_71 14 = .int rs := by rw [← emf_71, va_up_ne _ _ (by decide)]; exact v_14
            have v_15 : mf_71 15 = .ref a15 := by rw [← emf_71, va_up_ne _ _ (by decide)]; exact v_15
            have v_16 : mf_71 16 = .ref a16 := by rw [← emf_71, va_up_ne _ _ (by decide)]; exact v_16
            have v_17 : mf_71 17 = .ref a17 := by rw [← emf_71, va_up_ne _ _ (by decide)]; exact v_17
            have v_19 : mf_71 19 = .long (lN fr) := by rw [← emf_71, va_up_ne _ _ (by decide)]; exact v_19
            have v_20 : mf_71 20 = .long (lN ce) := by rw [← emf_71, va_up_ne _ _ (by decide)]; exact v_20
            have v_18 : mf_71 18 = .int 0 := by rw [← emf_71, va_up_self]
            generalize eh_72 : fU h x (40, 0, .inr (8, mo mf_71)) = h_72 at hI
            have hX := hX.set (e := .inr (8, mo mf_71)) g_x (by decide); rw [eh_72] at hX
            have hF := hF.set (e := .inr (8, mo mf_71)) g_x (by decide); rw [eh_72] at hF
            have g_a15 : h_72 a15 = some (56, 0, .inl ((G.2.1 0), 5, .inl (fun i => nI (sl i)))) := by rw [← eh_72]; exact fU_keep g_a15 (f_neR g_a15 g_x (by decide))
            have g_a16 : h_72 a16 = some (57, 0, .inl ((G.2.1 0), 5, .inl (fun i => nI (sr i)))) := by rw [← eh_72]; exact fU_keep g_a16 (f_neR g_a16 g_x (by decide))
            have g_a17 : h_72 a17 = some (58, 0, .inl ((G.2.1 1), 5, .inr (.inl (fun i => lN (sc i))))) := by rw [← eh_72]; exact fU_keep g_a17 (f_neR g_a17 g_x (by decide))
            have g_a11 : h_72 a11 = some (52, 0, .inl ((G.2.1 1), 300, .inr (.inl (fun i => lN (fv i))))) := by rw [← eh_72]; exact fU_keep g_a11 (f_neR g_a11 g_x (by decide))
            have hW9 : fF (inR [40]) h h_72 := by rw [← eh_72]; exact fF.rf.set g_x (by decide)
            have g_x : h_72 x = some (40, 0, .inr (8, mo mf_71)) := by rw [← eh_72]; exact fU_self _ _ _
            have hFc := mFc.keep (mf' := mf_71) hFc (fun j _ _ => by rw [← emf_71]; exact va_up_ne _ _ (by omega)) hW9 (by decide)
            have hEd := mEd.keep (mf' := mf_71) hEd (fun j _ _ => by rw [← emf_71]; exact va_up_ne _ _ (by omega)) hW9 (by decide)
            have hm1 : ∀ j, j < 14 ∨ 20 < j → mf_71 j = mf j := fun j hj => by rw [← emf_71, va_up_ne _ _ (by omega)]; exact hm1 j hj
            refine lv_aload_n hx hb d_MO_reckon_5 rfl (lv_at hl 0 rfl) ?_
            refine lv_lconst (v := 0) hx hb d_MO_reckon_6 (by decide) ?_
            refine f_put (C := "DutyRulesModel") (T := T_MO) (N := 40) (fs' := mo (va_up mf_71 19 (.long 0))) (v := .long 0) hx hb (fun w q => hT w (s_MO w q)) t_MO k_MO n_MO hown hK hI g_x (by decide) rfl 19 (by decide) (hT _ w_828) (fun _ q => q) rfl rfl rfl (by rw [mo_len]; decide) (mo_set _) d_MO_reckon_7 (fun H locs hI => ?_)
            generalize emf_73 : va_up mf_71 19 (.long 0) = mf_73 at hI
            have v_11 : mf_73 11 = .ref a11 := by rw [← emf_73, va_up_ne _ _ (by decide)]; exact v_11
            have v_14 : mf_73 14 = .int rs := by rw [← emf_73, va_up_ne _ _ (by decide)]; exact v_14
            have v_15 : mf_73 15 = .ref a15 := by rw [← emf_73, va_up_ne _ _ (by decide)]; exact v_15
            have v_16 : mf_73 16 = .ref a16 := by rw [← emf_73, va_up_ne _ _ (by decide)]; exact v_16
            have v_17 : mf_73 17 = .ref a17 := by rw [← emf_73, va_up_ne _ _ (by decide)]; exact v_17
            have v_18 : mf_73 18 = .int 0 := by rw [← emf_73, va_up_ne _ _ (by decide)]; exact v_18
            have v_20 : mf_73 20 = .long (lN ce) := by rw [← emf_73, va_up_ne _ _ (by decide)]; exact v_20
            have v_19 : mf_73 19 = .long 0 := by rw [← emf_73, va_up_self]
            generalize eh_74 : fU h_72 x (40, 0, .inr (8, mo mf_73)) = h_74 at hI
            have hX := hX.set (e := .inr (8, mo mf_73)) g_x (by decide); rw [eh_74] at hX
            have hF := hF.set (e := .inr (8, mo mf_73)) g_x (by decide); rw [eh_74] at hF
            have g_a15 : h_74 a15 = some (56, 0, .inl ((G.2.1 0), 5, .inl (fun i => nI (sl i)))) := by rw [← eh_74]; exact fU_keep g_a15 (f_neR g_a15 g_x (by decide))
            have g_a16 : h_74 a16 = some (57, 0, .inl ((G.2.1 0), 5, .inl (fun i => nI (sr i)))) := by rw [← eh_74]; exact fU_keep g_a16 (f_neR g_a16 g_x (by decide))
            have g_a17 : h_74 a17 = some (58, 0, .inl ((G.2.1 1), 5, .inr (.inl (fun i => lN (sc i))))) := by rw [← eh_74]; exact fU_keep g_a17 (f_neR g_a17 g_x (by decide))
            have g_a11 : h_74 a11 = some (52, 0, .inl ((G.2.1 1), 300, .inr (.inl (fun i => lN (fv i))))) := by rw [← eh_74]; exact fU_keep g_a11 (f_neR g_a11 g_x (by decide))
            have hW9 : fF (inR [40]) h_72 h_74 := by rw [← eh_74]; exact fF.rf.set g_x (by decide)
            have g_x : h_74 x = some (40, 0, .inr (8, mo mf_73)) := by rw [← eh_74]; exact fU_self _ _ _
            have hFc := mFc.keep (mf' := mf_73) hFc (fun j _ _ => by rw [← emf_73]; exact va_up_ne _ _ (by omega)) hW9 (by decide)
            have hEd := mEd.keep (mf' := mf_73) hEd (fun j _ _ => by rw [← emf_73]; exact va_up_ne _ _ (by omega)) hW9 (by decide)
            have hm1 : ∀ j, j < 14 ∨ 20 < j → mf_73 j = mf j := fun j hj => by rw [← emf_73, va_up_ne _ _ (by omega)]; exact hm1 j hj
            refine lv_aload_n hx hb d_MO_reckon_10 rfl (lv_at hl 0 rfl) ?_
            refine lv_lconst (v := 0) hx hb d_MO_reckon_11 (by decide) ?_
            refine f_put (C := "DutyRulesModel") (T := T_MO) (N := 40) (fs' := mo (va_up mf_73 20 (.long 0))) (v := .long 0) hx hb (fun w q => hT w (s_MO w q)) t_MO k_MO n_MO hown hK hI g_x (by decide) rfl 20 (by decide) (hT _ w_829) (fun _ q => q) rfl rfl rfl (by rw [mo_len]; decide) (mo_set _) d_MO_reckon_12 (fun H locs hI => ?_)
            generalize emf_75 : va_up mf_73 20 (.long 0) = mf_75 at hI
            have v_11 : mf_75 11 = .ref a11 := by rw [← emf_75, va_up_ne _ _ (by decide)]; exact v_11
            have v_14 : mf_75 14 = .int rs := by rw [← emf_75, va_up_ne _ _ (by decide)]; exact v_14
            have v_15 : mf_75 15 = .ref a15 := by rw [← emf_75, va_up_ne _ _ (by decide)]; exact v_15
            have v_16 : mf_75 16 = .ref a16 := by rw [← emf_75, va_up_ne _ _ (by decide)]; exact v_16
            have v_17 : mf_75 17 = .ref a17 := by rw [← emf_75, va_up_ne _ _ (by decide)]; exact v_17
            have v_18 : mf_75 18 = .int 0 := by rw [← emf_75, va_up_ne _ _ (by decide)]; exact v_18
            have v_19 : mf_75 19 = .long 0 := by rw [← emf_75, va_up_ne _ _ (by decide)]; exact v_19
            have v_20 : mf_75 20 = .long 0 := by rw [← emf_75, va_up_self]
            generalize eh_76 : fU h_74 x (40, 0, .inr (8, mo mf_75)) = h_76 at hI
            have hX := hX.set (e := .inr (8, mo mf_75)) g_x (by decide); rw [eh_76] at hX
            have hF := hF.set (e := .inr (8, mo mf_75)) g_x (by decide); rw [eh_76] at hF
            have g_a15 : h_76 a15 = some (56, 0, .inl ((G.2.1 0), 5, .inl (fun i => nI (sl i)))) := by rw [← eh_76]; exact fU_keep g_a15 (f_neR g_a15 g_x (by decide))
            have g_a16 : h_76 a16 = some (57, 0, .inl ((G.2.1 0), 5, .inl (fun i => nI (sr i)))) := by rw [← eh_76]; exact fU_keep g_a16 (f_neR g_a16 g_x (by decide))
            have g_a17 : h_76 a17 = some (58, 0, .inl ((G.2.1 1), 5, .inr (.inl (fun i => lN (sc i))))) := by rw [← eh_76]; exact fU_keep g_a17 (f_neR g_a17 g_x (by decide))
            have g_a11 : h_76 a11 = some (52, 0, .inl ((G.2.1 1), 300, .inr (.inl (fun i => lN (fv i))))) := by rw [← eh_76]; exact fU_keep g_a11 (f_neR g_a11 g_x (by decide))
            have hW9 : fF (inR [40]) h_74 h_76 := by rw [← eh_76]; exact fF.rf.set g_x (by decide)
            have g_x : h_76 x = some (40, 0, .inr (8, mo mf_75)) := by rw [← eh_76]; exact fU_self _ _ _
            have hFc := mFc.keep (mf' := mf_75) hFc (fun j _ _ => by rw [← emf_75]; exact va_up_ne _ _ (by omega)) hW9 (by decide)
            have hEd := mEd.keep (mf' := mf_75) hEd (fun j _ _ => by rw [← emf_75]; exact va_up_ne _ _ (by omega)) hW9 (by decide)
            have hm1 : ∀ j, j < 14 ∨ 20 < j → mf_75 j = mf j := fun j hj => by rw [← emf_75, va_up_ne _ _ (by omega)]; exact hm1 j hj
            refine lv_aload_n hx hb d_MO_reckon_15 rfl (lv_at hl 0 rfl) ?_
            refine lv_lload_n hx hb d_MO_reckon_16 rfl (lv_at hl 2 rfl) ?_
            refine f_calli hI (f_runV C hI (c_MO_editionOf l G h_76 _ x day mf_75 g_x ne ef rr rm hEd (by omega)) gm_MO_editionOf w_1024 p_MO_editionOf w_1022 g_x rfl rfl rfl hl.1 rfl (Nat.le_of_ble_eq_true rfl) ⟨Nat.le_of_ble_eq_true rfl, Nat.le_of_ble_eq_true rfl⟩ d_MO_reckon_17 ⟨Nat.le_of_ble_eq_true rfl, Nat.le_of_ble_eq_true rfl⟩) (fun r_77 h9 H9 locs hp9 hX9 hz9 hI => ?_)
            obtain ⟨rfl, e9⟩ := hp9
            rw [e9] at hI
            clear hX9 e9
            rw [en]
            refine lv_istore (lv' := [(6, .int (nI e1)), (0, .ref x), (1, .int (nI lot)), (2, .long (lN day)), (4, .long (lN on))]) hx hb d_MO_reckon_20 hl (by decide) rfl (fun ls hl => ?_)
            refine lv_aload_n hx hb d_MO_reckon_22 rfl (lv_at hl 1 rfl) ?_
            refine lv_bipush (v := 20) hx hb d_MO_reckon_23 (by decide) ?_
            refine f_put (C := "DutyRulesModel") (T := T_MO) (N := 40) (fs' := mo (va_up mf_75 14 (.int 20))) (v := .int 20) hx hb (fun w q => hT w (s_MO w q)) t_MO k_MO n_MO hown hK hI g_x (by decide) rfl 14 (by decide) (hT _ w_823) (fun _ q => q) rfl rfl rfl (by rw [mo_len]; decide) (mo_set _) d_MO_reckon_25 (fun H locs hI => ?_)
            generalize emf_78 : va_up mf_75 14 (.int 20) = mf_78 at hI
            have v_11 : mf_78 11 = .ref a11 := by rw [← emf_78, va_up_ne _ _ (by decide)]; exact v_11
            have v_15 : mf_78 15 = .ref a15 := by rw [← emf_78, va_up_ne _ _ (by decide)]; exact v_15
            have v_16 : mf_78 16 = .ref a16 := by rw [← emf_78, va_up_ne _ _ (by decide)]; exact v_16
            have v_17 : mf_78 17 = .ref a17 := by rw [← emf_78, va_up_ne _ _ (by decide)]; exact v_17
            have v_18 : mf_78 18 = .int 0 := by rw [← emf_78, va_up_ne _ _ (by decide)]; exact v_18
            have v_19 : mf_78 19 = .long 0 := by rw [← emf_78, va_up_ne _ _ (by decide)]; exact v_19
            have v_20 : mf_78 20 = .long 0 := by rw [← emf_78, va_up_ne _ _ (by decide)]; exact v_20
            have v_14 : mf_78 14 = .int 20 := by rw [← emf_78, va_up_self]
            generalize eh_79 : fU h_76 x (40, 0, .inr (8, mo mf_78)) = h_79 at hI
            have hX := hX.set (e := .inr (8, mo mf_78)) g_x (by decide); rw [eh_79] at hX
            have hF := hF.set (e := .inr (8, mo mf_78)) g_x (by decide); rw [eh_79] at hF
            have g_a15 : h_79 a15 = some (56, 0, .inl ((G.2.1 0), 5, .inl (fun i => nI (sl i)))) := by rw [← eh_79]; exact fU_keep g_a15 (f_neR g_a15 g_x (by decide))
            have g_a16 : h_79 a16 = some (57, 0, .inl ((G.2.1 0), 5, .inl (fun i => nI (sr i)))) := by rw [← eh_79]; exact fU_keep g_a16 (f_neR g_a16 g_x (by decide))
            have g_a17 : h_79 a17 = some (58, 0, .inl ((G.2.1 1), 5, .inr (.inl (fun i => lN (sc i))))) := by rw [← eh_79]; exact fU_keep g_a17 (f_neR g_a17 g_x (by decide))
            have g_a11 : h_79 a11 = some (52, 0, .inl ((G.2.1 1), 300, .inr (.inl (fun i => lN (fv i))))) := by rw [← eh_79]; exact fU_keep g_a11 (f_neR g_a11 g_x (by decide))
            have hW9 : fF (inR [40]) h_76 h_79 := by rw [← eh_79]; exact fF.rf.set g_x (by decide)
            have g_x : h_79 x = some (40, 0, .inr (8, mo mf_78)) := by rw [← eh_79]; exact fU_self _ _ _
            have hFc := mFc.keep (mf' := mf_78) hFc (fun j _ _ => by rw [← emf_78]; exact va_up_ne _ _ (by omega)) hW9 (by decide)
            have hEd := mEd.keep (mf' := mf_78) hEd (fun j _ _ => by rw [← emf_78]; exact va_up_ne _ _ (by omega)) hW9 (by decide)
            have hm1 : ∀ j, j < 14 ∨ 20 < j → mf_78 j = mf j := fun j hj => by rw [← emf_78, va_up_ne _ _ (by omega)]; exact hm1 j hj
            refine lv_iload hx hb d_MO_reckon_28 (lv_at hl 0 rfl) ?_
            refine lv_iconst (v := (-1)) hx hb d_MO_reckon_30 (by decide) ?_
            refine lv_icmp_ne (tgt := 36) hx hb d_MO_reckon_31 (by decide) (fun c_80 => ?_) (fun c_80 => absurd c_80 (n_m1 (by omega)))
            refine lv_iconst (v := 0) hx hb d_MO_reckon_36 (by decide) ?_
            refine lv_istore (lv' := [(7, .int 0), (6, .int (nI e1)), (0, .ref x), (1, .int (nI lot)), (2, .long (lN day)), (4, .long (lN on))]) hx hb d_MO_reckon_37 hl (by decide) rfl (fun ls hl => ?_)
            refine lv_iload hx hb d_MO_reckon_39 (lv_at hl 0 rfl) ?_
            refine lv_iconst (v := 3) hx hb d_MO_reckon_41 (by decide) ?_
            refine lv_icmp_ge (tgt := 73) hx hb d_MO_reckon_42 (by decide) (fun c_81 => absurd c_81 (by decide)) (fun c_81 => ?_)
            refine lv_aload_n hx hb d_MO_reckon_45 rfl (lv_at hl 2 rfl) ?_
            refine lv_iload hx hb d_MO_reckon_46 (lv_at hl 0 rfl) ?_
            refine f_put (C := "DutyRulesModel") (T := T_MO) (N := 40) (fs' := mo (va_up mf_78 14 (.int 0))) (v := .int 0) hx hb (fun w q => hT w (s_MO w q)) t_MO k_MO n_MO hown hK hI g_x (by decide) rfl 14 (by decide) (hT _ w_823) (fun _ q => q) rfl rfl rfl (by rw [mo_len]; decide) (mo_set _) d_MO_reckon_48 (fun H locs hI => ?_)
            generalize emf_82 : va_up mf_78 14 (.int 0) = mf_82 at hI
            have v_11 : mf_82 11 = .ref a11 := by rw [← emf_82, va_up_ne _ _ (by decide)]; exact v_11
            have v_15 : mf_82 15 = .ref a15 := by rw [← emf_82, va_up_ne _ _ (by decide)]; exact v_15
            have v_16 : mf_82 16 = .ref a16 := by rw [← emf_82, va_up_ne _ _ (by decide)]; exact v_16
            have v_17 : mf_82 17 = .ref a17 := by rw [← emf_82, va_up_ne _ _ (by decide)]; exact v_17
            have v_18 : mf_82 18 = .int 0 := by rw [← emf_82, va_up_ne _ _ (by decide)]; exact v_18
            have v_19 : mf_82 19 = .long 0 := by rw [← emf_82, va_up_ne _ _ (by decide)]; exact v_19
            have v_20 : mf_82 20 = .long 0 := by rw [← emf_82, va_up_ne _ _ (by decide)]; exact v_20
            have v_14 : mf_82 14 = .int 0 := by rw [← emf_82, va_up_self]
            generalize eh_83 : fU h_79 x (40, 0, .inr (8, mo mf_82)) = h_83 at hI
            have hX := hX.set (e := .inr (8, mo mf_82)) g_x (by decide); rw [eh_83] at hX
            have hF := hF.set (e := .inr (8, mo mf_82)) g_x (by decide); rw [eh_83] at hF
            have g_a15 : h_83 a15 = some (56, 0, .inl ((G.2.1 0), 5, .inl (fun i => nI (sl i)))) := by rw [← eh_83]; exact fU_keep g_a15 (f_neR g_a15 g_x (by decide))
            have g_a16 : h_83 a16 = some (57, 0, .inl ((G.2.1 0), 5, .inl (fun i => nI (sr i)))) := by rw [← eh_83]; exact fU_keep g_a16 (f_neR g_a16 g_x (by decide))
            have g_a17 : h_83 a17 = some (58, 0, .inl ((G.2.1 1), 5, .inr (.inl (fun i => lN (sc i))))) := by rw [← eh_83]; exact fU_keep g_a17 (f_neR g_a17 g_x (by decide))
            have g_a11 : h_83 a11 = some (52, 0, .inl ((G.2.1 1), 300, .inr (.inl (fun i => lN (fv i))))) := by rw [← eh_83]; exact fU_keep g_a11 (f_neR g_a11 g_x (by decide))
            have hW9 : fF (inR [40]) h_79 h_83 := by rw [← eh_83]; exact fF.rf.set g_x (by decide)
            have g_x : h_83 x = some (40, 0, .inr (8, mo mf_82)) := by rw [← eh_83]; exact fU_self _ _ _
            have hFc := mFc.keep (mf' := mf_82) hFc (fun j _ _ => by rw [← emf_82]; exact va_up_ne _ _ (by omega)) hW9 (by decide)
            have hEd := mEd.keep (mf' := mf_82) hEd (fun j _ _ => by rw [← emf_82]; exact va_up_ne _ _ (by omega)) hW9 (by decide)
            have hm1 : ∀ j, j < 14 ∨ 20 < j → mf_82 j = mf j := fun j hj => by rw [← emf_82, va_up_ne _ _ (by omega)]; exact hm1 j hj
            refine lv_aload_n hx hb d_MO_reckon_51 rfl (lv_at hl 2 rfl) ?_
            refine lv_iload_n hx hb d_MO_reckon_52 rfl (lv_at hl 3 rfl) ?_
            refine lv_iload hx hb d_MO_reckon_53 (lv_at hl 0 rfl) ?_
            refine lv_lload_n hx hb d_MO_reckon_55 rfl (lv_at hl 4 rfl) ?_
            refine lv_lload hx hb d_MO_reckon_56 (lv_at hl 5 rfl) ?_
            refine f_calli hI (f_runV C hI (c_MO_holds l G h_83 _ x nf lot 0 day on fl fk fd fw fv mf_82 g_x hFc (by omega) (by omega) (by omega) (by omega)) gm_MO_holds w_1028 p_MO_holds w_1026 g_x rfl rfl rfl hl.1 rfl (Nat.le_of_ble_eq_true rfl) ⟨Nat.le_of_ble_eq_true rfl, Nat.le_of_ble_eq_true rfl⟩ d_MO_reckon_58 ⟨Nat.le_of_ble_eq_true rfl, Nat.le_of_ble_eq_true rfl⟩) (fun r_84 h9 H9 locs hp9 hX9 hz9 hI => ?_)
            obtain ⟨rfl, e9⟩ := hp9
            rw [e9] at hI
            clear hX9 e9
            rw [e0, bI_k (by omega)]
            refine lv_iconst (v := (-1)) hx hb d_MO_reckon_61 (by decide) ?_
            refine lv_icmp_ne (tgt := 67) hx hb d_MO_reckon_62 (by decide) (fun c_85 => ?_) (fun c_85 => absurd c_85 (n_m1 (by omega)))
            refine lv_iinc (v := 1) (lv' := [(7, .int 1), (6, .int (nI e1)), (0, .ref x), (1, .int (nI lot)), (2, .long (lN day)), (4, .long (lN on))]) hx hb d_MO_reckon_67 hl (k := 0) rfl (by decide) (by decide) rfl (fun ls hl => ?_)
            refine lv_goto (tgt := 39) hx hb d_MO_reckon_70 (by decide) ?_
            refine lv_iload hx hb d_MO_reckon_39 (lv_at hl 0 rfl) ?_
            refine lv_iconst (v := 3) hx hb d_MO_reckon_41 (by decide) ?_
            refine lv_icmp_ge (tgt := 73) hx hb d_MO_reckon_42 (by decide) (fun c_86 => absurd c_86 (by decide)) (fun c_86 => ?_)
            refine lv_aload_n hx hb d_MO_reckon_45 rfl (lv_at hl 2 rfl) ?_
            refine lv_iload hx hb d_MO_reckon_46 (lv_at hl 0 rfl) ?_
            refine f_put (C := "DutyRulesModel") (T := T_MO) (N := 40) (fs' := mo (va_up mf_82 14 (.int 1))) (v := .int 1) hx hb (fun w q => hT w (s_MO w q)) t_MO k_MO n_MO hown hK hI g_x (by decide) rfl 14 (by decide) (hT _ w_823) (fun _ q => q) rfl rfl rfl (by rw [mo_len]; decide) (mo_set _) d_MO_reckon_48 (fun H locs hI => ?_)
            generalize emf_87 : va_up mf_82 14 (.int 1) = mf_87 at hI
            have v_11 : mf_87 11 = .ref a11 := by rw [← emf_87, va_up_ne _ _ (by decide)]; exact v_11
            have v_15 : mf_87 15 = .ref a15 := by rw [← emf_87, va_up_ne _ _ (by decide)]; exact v_15
            have v_16 : mf_87 16 = .ref a16 := by rw [← emf_87, va_up_ne _ _ (by decide)]; exact v_16
            have v_17 : mf_87 17 = .ref a17 := by rw [← emf_87, va_up_ne _ _ (by decide)]; exact v_17
            have v_18 : mf_87 18 = .int 0 := by rw [← emf_87, va_up_ne _ _ (by decide)]; exact v_18
            have v_19 : mf_87 19 = .long 0 := by rw [← emf_87, va_up_ne _ _ (by decide)]; exact v_19
            have v_20 : mf_87 20 = .long 0 := by rw [← emf_87, va_up_ne _ _ (by decide)]; exact v_20
            have v_14 : mf_87 14 = .int 1 := by rw [← emf_87, va_up_self]
            generalize eh_88 : fU h_83 x (40, 0, .inr (8, mo mf_87)) = h_88 at hI
            have hX := hX.set (e := .inr (8, mo mf_87)) g_x (by decide); rw [eh_88] at hX
            have hF := hF.set (e := .inr (8, mo mf_87)) g_x (by decide); rw [eh_88] at hF
            have g_a15 : h_88 a15 = some (56, 0, .inl ((G.2.1 0), 5, .inl (fun i => nI (sl i)))) := by rw [← eh_88]; exact fU_keep g_a15 (f_neR g_a15 g_x (by decide))
            have g_a16 : h_88 a16 = some (57, 0, .inl ((G.2.1 0), 5, .inl (fun i => nI (sr i)))) := by rw [← eh_88]; exact fU_keep g_a16 (f_neR g_a16 g_x (by decide))
            have g_a17 : h_88 a17 = some (58, 0, .inl ((G.2.1 1), 5, .inr (.inl (fun i => lN (sc i))))) := by rw [← eh_88]; exact fU_keep g_a17 (f_neR g_a17 g_x (by decide))
            have g_a11 : h_88 a11 = some (52, 0, .inl ((G.2.1 1), 300, .inr (.inl (fun i => lN (fv i))))) := by rw [← eh_88]; exact fU_keep g_a11 (f_neR g_a11 g_x (by decide))
            have hW9 : fF (inR [40]) h_83 h_88 := by rw [← eh_88]; exact fF.rf.set g_x (by decide)
            have g_x : h_88 x = some (40, 0, .inr (8, mo mf_87)) := by rw [← eh_88]; exact fU_self _ _ _
            have hFc := mFc.keep (mf' := mf_87) hFc (fun j _ _ => by rw [← emf_87]; exact va_up_ne _ _ (by omega)) hW9 (by decide)
            have hEd := mEd.keep (mf' := mf_87) hEd (fun j _ _ => by rw [← emf_87]; exact va_up_ne _ _ (by omega)) hW9 (by decide)
            have hm1 : ∀ j, j < 14 ∨ 20 < j → mf_87 j = mf j := fun j hj => by rw [← emf_87, va_up_ne _ _ (by omega)]; exact hm1 j hj
            refine lv_aload_n hx hb d_MO_reckon_51 rfl (lv_at hl 2 rfl) ?_
            refine lv_iload_n hx hb d_MO_reckon_52 rfl (lv_at hl 3 rfl) ?_
            refine lv_iload hx hb d_MO_reckon_53 (lv_at hl 0 rfl) ?_
            refine lv_lload_n hx hb d_MO_reckon_55 rfl (lv_at hl 4 rfl) ?_
            refine lv_lload hx hb d_MO_reckon_56 (lv_at hl 5 rfl) ?_
            refine f_calli hI (f_runV C hI (c_MO_holds l G h_88 _ x nf lot 1 day on fl fk fd fw fv mf_87 g_x hFc (by omega) (by omega) (by omega) (by omega)) gm_MO_holds w_1028 p_MO_holds w_1026 g_x rfl rfl rfl hl.1 rfl (Nat.le_of_ble_eq_true rfl) ⟨Nat.le_of_ble_eq_true rfl, Nat.le_of_ble_eq_true rfl⟩ d_MO_reckon_58 ⟨Nat.le_of_ble_eq_true rfl, Nat.le_of_ble_eq_true rfl⟩) (fun r_89 h9 H9 locs hp9 hX9 hz9 hI => ?_)
            obtain ⟨rfl, e9⟩ := hp9
            rw [e9] at hI
            clear hX9 e9
            rw [e1, bI_k (by omega)]
            refine lv_iconst (v := (-1)) hx hb d_MO_reckon_61 (by decide) ?_
            refine lv_icmp_ne (tgt := 67) hx hb d_MO_reckon_62 (by decide) (fun c_90 => ?_) (fun c_90 => absurd c_90 (n_m1 (by omega)))
            refine lv_iinc (v := 2) (lv' := [(7, .int 2), (6, .int (nI e1)), (0, .ref x), (1, .int (nI lot)), (2, .long (lN day)), (4, .long (lN on))]) hx hb d_MO_reckon_67 hl (k := 0) rfl (by decide) (by decide) rfl (fun ls hl => ?_)
            refine lv_goto (tgt := 39) hx hb d_MO_reckon_70 (by decide) ?_
            refine lv_iload hx hb d_MO_reckon_39 (lv_at hl 0 rfl) ?_
            refine lv_iconst (v := 3) hx hb d_MO_reckon_41 (by decide) ?_
            refine lv_icmp_ge (tgt := 73) hx hb d_MO_reckon_42 (by decide) (fun c_91 => absurd c_91 (by decide)) (fun c_91 => ?_)
            refine lv_aload_n hx hb d_MO_reckon_45 rfl (lv_at hl 2 rfl) ?_
            refine lv_iload hx hb d_MO_reckon_46 (lv_at hl 0 rfl) ?_
            refine f_put (C := "DutyRulesModel") (T := T_MO) (N := 40) (fs' := mo (va_up mf_87 14 (.int 2))) (v := .int 2) hx hb (fun w q => hT w (s_MO w q)) t_MO k_MO n_MO hown hK hI g_x (by decide) rfl 14 (by decide) (hT _ w_823) (fun _ q => q) rfl rfl rfl (by rw [mo_len]; decide) (mo_set _) d_MO_reckon_48 (fun H locs hI => ?_)
            generalize emf_92 : va_up mf_87 14 (.int 2) = mf_92 at hI
            have v_11 : mf_92 11 = .ref a11 := by rw [← emf_92, va_up_ne _ _ (by decide)]; exact v_11
            have v_15 : mf_92 15 = .ref a15 := by rw [← emf_92, va_up_ne _ _ (by decide)]; exact v_15
            have v_16 : mf_92 16 = .ref a16 := by rw [← emf_92, va_up_ne _ _ (by decide)]; exact v_16
            have v_17 : mf_92 17 = .ref a17 := by rw [← emf_92, va_up_ne _ _ (by decide)]; exact v_17
            have v_18 : mf_92 18 = .int 0 := by rw [← emf_92, va_up_ne _ _ (by decide)]; exact v_18
            have v_19 : mf_92 19 = .long 0 := by rw [← emf_92, va_up_ne _ _ (by decide)]; exact v_19
            have v_20 : mf_92 20 = .long 0 := by rw [← emf_92, va_up_ne _ _ (by decide)]; exact v_20
            have v_14 : mf_92 14 = .int 2 := by rw [← emf_92, va_up_self]
            generalize eh_93 : fU h_88 x (40, 0, .inr (8, mo mf_92)) = h_93 at hI
            have hX := hX.set (e := .inr (8, mo mf_92)) g_x (by decide); rw [eh_93] at hX
            have hF := hF.set (e := .inr (8, mo mf_92)) g_x (by decide); rw [eh_93] at hF
            have g_a15 : h_93 a15 = some (56, 0, .inl ((G.2.1 0), 5, .inl (fun i => nI (sl i)))) := by rw [← eh_93]; exact fU_keep g_a15 (f_neR g_a15 g_x (by decide))
            have g_a16 : h_93 a16 = some (57, 0, .inl ((G.2.1 0), 5, .inl (fun i => nI (sr i)))) := by rw [← eh_93]; exact fU_keep g_a16 (f_neR g_a16 g_x (by decide))
            have g_a17 : h_93 a17 = some (58, 0, .inl ((G.2.1 1), 5, .inr (.inl (fun i => lN (sc i))))) := by rw [← eh_93]; exact fU_keep g_a17 (f_neR g_a17 g_x (by decide))
            have g_a11 : h_93 a11 = some (52, 0, .inl ((G.2.1 1), 300, .inr (.inl (fun i => lN (fv i))))) := by rw [← eh_93]; exact fU_keep g_a11 (f_neR g_a11 g_x (by decide))
            have hW9 : fF (inR [40]) h_88 h_93 := by rw [← eh_93]; exact fF.rf.set g_x (by decide)
            have g_x : h_93 x = some (40, 0, .inr (8, mo mf_92)) := by rw [← eh_93]; exact fU_self _ _ _
            have hFc := mFc.keep (mf' := mf_92) hFc (fun j _ _ => by rw [← emf_92]; exact va_up_ne _ _ (by omega)) hW9 (by decide)
            have hEd := mEd.keep (mf' := mf_92) hEd (fun j _ _ => by rw [← emf_92]; exact va_up_ne _ _ (by omega)) hW9 (by decide)
            have hm1 : ∀ j, j < 14 ∨ 20 < j → mf_92 j = mf j := fun j hj => by rw [← emf_92, va_up_ne _ _ (by omega)]; exact hm1 j hj
            refine lv_aload_n hx hb d_MO_reckon_51 rfl (lv_at hl 2 rfl) ?_
            refine lv_iload_n hx hb d_MO_reckon_52 rfl (lv_at hl 3 rfl) ?_
            refine lv_iload hx hb d_MO_reckon_53 (lv_at hl 0 rfl) ?_
            refine lv_lload_n hx hb d_MO_reckon_55 rfl (lv_at hl 4 rfl) ?_
            refine lv_lload hx hb d_MO_reckon_56 (lv_at hl 5 rfl) ?_
            refine f_calli hI (f_runV C hI (c_MO_holds l G h_93 _ x nf lot 2 day on fl fk fd fw fv mf_92 g_x hFc (by omega) (by omega) (by omega) (by omega)) gm_MO_holds w_1028 p_MO_holds w_1026 g_x rfl rfl rfl hl.1 rfl (Nat.le_of_ble_eq_true rfl) ⟨Nat.le_of_ble_eq_true rfl, Nat.le_of_ble_eq_true rfl⟩ d_MO_reckon_58 ⟨Nat.le_of_ble_eq_true rfl, Nat.le_of_ble_eq_true rfl⟩) (fun r_94 h9 H9 locs hp9 hX9 hz9 hI => ?_)
            obtain ⟨rfl, e9⟩ := hp9
            rw [e9] at hI
            clear hX9 e9
            rw [e2, bI_k (by omega)]
            refine lv_iconst (v := (-1)) hx hb d_MO_reckon_61 (by decide) ?_
            refine lv_icmp_ne (tgt := 67) hx hb d_MO_reckon_62 (by decide) (fun c_95 => ?_) (fun c_95 => absurd c_95 (n_m1 (by omega)))
            refine lv_iinc (v := 3) (lv' := [(7, .int 3), (6, .int (nI e1)), (0, .ref x), (1, .int (nI lot)), (2, .long (lN day)), (4, .long (lN on))]) hx hb d_MO_reckon_67 hl (k := 0) rfl (by decide) (by decide) rfl (fun ls hl => ?_)
            refine lv_goto (tgt := 39) hx hb d_MO_reckon_70 (by decide) ?_
            refine lv_iload hx hb d_MO_reckon_39 (lv_at hl 0 rfl) ?_
            refine lv_iconst (v := 3) hx hb d_MO_reckon_41 (by decide) ?_
            refine lv_icmp_ge (tgt := 73) hx hb d_MO_reckon_42 (by decide) (fun c_96 => ?_) (fun c_96 => absurd (by decide) c_96)
            refine lv_aload_n hx hb d_MO_reckon_73 rfl (lv_at hl 2 rfl) ?_
            refine f_get (C := "DutyRulesModel") (T := T_MO) (N := 40) hx hb (fun w q => hT w (s_MO w q)) hown hK hI g_x rfl 11 (by decide) (hT _ w_820) (fun _ q => q) (mo_get (by decide) v_11) d_MO_reckon_74 ?_
            refine lv_aload_n hx hb d_MO_reckon_77 rfl (lv_at hl 2 rfl) ?_
            refine lv_iload_n hx hb d_MO_reckon_78 rfl (lv_at hl 3 rfl) ?_
            refine lv_iconst (v := 0) hx hb d_MO_reckon_79 (by decide) ?_
            refine lv_lload_n hx hb d_MO_reckon_80 rfl (lv_at hl 4 rfl) ?_
            refine lv_lload hx hb d_MO_reckon_81 (lv_at hl 5 rfl) ?_
            refine f_calli hI (f_runV C hI (c_MO_holds l G h_93 _ x nf lot 0 day on fl fk fd fw fv mf_92 g_x hFc (by omega) (by omega) (by omega) (by omega)) gm_MO_holds w_1028 p_MO_holds w_1026 g_x rfl rfl rfl hl.1 rfl (Nat.le_of_ble_eq_true rfl) ⟨Nat.le_of_ble_eq_true rfl, Nat.le_of_ble_eq_true rfl⟩ d_MO_reckon_83 ⟨Nat.le_of_ble_eq_true rfl, Nat.le_of_ble_eq_true rfl⟩) (fun r_97 h9 H9 locs hp9 hX9 hz9 hI => ?_)
            obtain ⟨rfl, e9⟩ := hp9
            rw [e9] at hI
            clear hX9 e9
            rw [e0, bI_k (by omega)]
            refine f_laldn (k := i0) (v := (lN (fv i0))) hx hb hI g_a11 (fT.ofK hK (t0 := 1) rfl) (by omega) (by omega) rfl d_MO_reckon_86 ?_
            refine lv_lstore (lv' := [(7, .long (lN (fv i0))), (6, .int (nI e1)), (0, .ref x), (1, .int (nI lot)), (2, .long (lN day)), (4, .long (lN on))]) hx hb d_MO_reckon_87 hl (by decide) rfl (fun ls hl => ?_)
            refine lv_aload_n hx hb d_MO_reckon_89 rfl (lv_at hl 2 rfl) ?_
            refine f_get (C := "DutyRulesModel") (T := T_MO) (N := 40) hx hb (fun w q => hT w (s_MO w q)) hown hK hI g_x rfl 11 (by decide) (hT _ w_820) (fun _ q => q) (mo_get (by decide) v_11) d_MO_reckon_90 ?_
            refine lv_aload_n hx hb d_MO_reckon_93 rfl (lv_at hl 2 rfl) ?_
            refine lv_iload_n hx hb d_MO_reckon_94 rfl (lv_at hl 3 rfl) ?_
            refine lv_iconst (v := 1) hx hb d_MO_reckon_95 (by decide) ?_
            refine lv_lload_n hx hb d_MO_reckon_96 rfl (lv_at hl 4 rfl) ?_
            refine lv_lload hx hb d_MO_reckon_97 (lv_at hl 5 rfl) ?_
            refine f_calli hI (f_runV C hI (c_MO_holds l G h_93 _ x nf lot 1 day on fl fk fd fw fv mf_92 g_x hFc (by omega) (by omega) (by omega) (by omega)) gm_MO_holds w_1028 p_MO_holds w_1026 g_x rfl rfl rfl hl.1 rfl (Nat.le_of_ble_eq_true rfl) ⟨Nat.le_of_ble_eq_true rfl, Nat.le_of_ble_eq_true rfl⟩ d_MO_reckon_99 ⟨Nat.le_of_ble_eq_true rfl, Nat.le_of_ble_eq_true rfl⟩) (fun r_98 h9 H9 locs hp9 hX9 hz9 hI => ?_)
            obtain ⟨rfl, e9⟩ := hp9
            rw [e9] at hI
            clear hX9 e9
            rw [e1, bI_k (by omega)]
            refine f_laldn (k := i1) (v := (lN (fv i1))) hx hb hI g_a11 (fT.ofK hK (t0 := 1) rfl) (by omega) (by omega) rfl d_MO_reckon_102 ?_
            refine lv_lstore (lv' := [(9, .long (lN (fv i1))), (7, .long (lN (fv i0))), (6, .int (nI e1)), (0, .ref x), (1, .int (nI lot)), (2, .long (lN day)), (4, .long (lN on))]) hx hb d_MO_reckon_103 hl (by decide) rfl (fun ls hl => ?_)
            refine lv_aload_n hx hb d_MO_reckon_105 rfl (lv_at hl 3 rfl) ?_
            refine f_get (C := "DutyRulesModel") (T := T_MO) (N := 40) hx hb (fun w q => hT w (s_MO w q)) hown hK hI g_x rfl 11 (by decide) (hT _ w_820) (fun _ q => q) (mo_get (by decide) v_11) d_MO_reckon_106 ?_
            refine lv_aload_n hx hb d_MO_reckon_109 rfl (lv_at hl 3 rfl) ?_
            refine lv_iload_n hx hb d_MO_reckon_110 rfl (lv_at hl 4 rfl) ?_
            refine lv_iconst (v := 2) hx hb d_MO_reckon_111 (by decide) ?_
            refine lv_lload_n hx hb d_MO_reckon_112 rfl (lv_at hl 5 rfl) ?_
            refine lv_lload hx hb d_MO_reckon_113 (lv_at hl 6 rfl) ?_
            refine f_calli hI (f_runV C hI (c_MO_holds l G h_93 _ x nf lot 2 day on fl fk fd fw fv mf_92 g_x hFc (by omega) (by omega) (by omega) (by omega)) gm_MO_holds w_1028 p_MO_holds w_1026 g_x rfl rfl rfl hl.1 rfl (Nat.le_of_ble_eq_true rfl) ⟨Nat.le_of_ble_eq_true rfl, Nat.le_of_ble_eq_true rfl⟩ d_MO_reckon_115 ⟨Nat.le_of_ble_eq_true rfl, Nat.le_of_ble_eq_true rfl⟩) (fun r_99 h9 H9 locs hp9 hX9 hz9 hI => ?_)
            obtain ⟨rfl, e9⟩ := hp9
            rw [e9] at hI
            clear hX9 e9
            rw [e2, bI_k (by omega)]
            refine f_laldn (k := i2) (v := (lN (fv i2))) hx hb hI g_a11 (fT.ofK hK (t0 := 1) rfl) (by omega) (by omega) rfl d_MO_reckon_118 ?_
            refine lv_lstore (lv' := [(11, .long (lN (fv i2))), (9, .long (lN (fv i1))), (7, .long (lN (fv i0))), (6, .int (nI e1)), (0, .ref x), (1, .int (nI lot)), (2, .long (lN day)), (4, .long (lN on))]) hx hb d_MO_reckon_119 hl (by decide) rfl (fun ls hl => ?_)
            refine lv_aload_n hx hb d_MO_reckon_121 rfl (lv_at hl 4 rfl) ?_
            refine lv_iload hx hb d_MO_reckon_122 (lv_at hl 3 rfl) ?_
            refine lv_iconst (v := 0) hx hb d_MO_reckon_124 (by decide) ?_
            refine lv_lload hx hb d_MO_reckon_125 (lv_at hl 2 rfl) ?_
            refine lv_lload hx hb d_MO_reckon_127 (lv_at hl 1 rfl) ?_
            refine f_calli hI (f_runV C hI (c_MO_find l G h_93 _ x e1 0 (fv i0) (fv i1) mf_92 g_x ne ef rr rm hEd (by omega) (by omega) (by omega) (by omega)) gm_MO_find w_1032 p_MO_find w_1030 g_x rfl rfl rfl hl.1 rfl (Nat.le_of_ble_eq_true rfl) ⟨Nat.le_of_ble_eq_true rfl, Nat.le_of_ble_eq_true rfl⟩ d_MO_reckon_129 ⟨Nat.le_of_ble_eq_true rfl, Nat.le_of_ble_eq_true rfl⟩) (fun r_100 h9 H9 locs hp9 hX9 hz9 hI => ?_)
            obtain ⟨rfl, e9⟩ := hp9
            rw [e9] at hI
            clear hX9 e9
            rw [eR]
            refine lv_istore (lv' := [(13, .int (-1)), (11, .long (lN (fv i2))), (9, .long (lN (fv i1))), (7, .long (lN (fv i0))), (6, .int (nI e1)), (0, .ref x), (1, .int (nI lot)), (2, .long (lN day)), (4, .long (lN on))]) hx hb d_MO_reckon_132 hl (by decide) rfl (fun ls hl => ?_)
            refine lv_aload_n hx hb d_MO_reckon_134 rfl (lv_at hl 5 rfl) ?_
            refine lv_iload hx hb d_MO_reckon_135 (lv_at hl 4 rfl) ?_
            refine lv_iconst (v := 1) hx hb d_MO_reckon_137 (by decide) ?_
            refine lv_lload hx hb d_MO_reckon_138 (lv_at hl 3 rfl) ?_
            refine lv_lconst (v := 0) hx hb d_MO_reckon_140 (by decide) ?_
            refine f_calli hI (f_runV C hI (c_MO_find l G h_93 _ x e1 1 (fv i0) 0 mf_92 g_x ne ef rr rm hEd (by omega) (by omega) (by omega) (by omega)) gm_MO_find w_1032 p_MO_find w_1030 g_x rfl rfl rfl hl.1 rfl (Nat.le_of_ble_eq_true rfl) ⟨Nat.le_of_ble_eq_true rfl, Nat.le_of_ble_eq_true rfl⟩ d_MO_reckon_141 ⟨Nat.le_of_ble_eq_true rfl, Nat.le_of_ble_eq_true rfl⟩) (fun r_101 h9 H9 locs hp9 hX9 hz9 hI => ?_)
            obtain ⟨rfl, e9⟩ := hp9
            rw [e9] at hI
            clear hX9 e9
            refine lv_istore (lv' := [(14, .int (oN (ff (fp rr e1 1 (fv i0) 0) 0 (rm e1)))), (13, .int (-1)), (11, .long (lN (fv i2))), (9, .long (lN (fv i1))), (7, .long (lN (fv i0))), (6, .int (nI e1)), (0, .ref x), (1, .int (nI lot)), (2, .long (lN day)), (4, .long (lN on))]) hx hb d_MO_reckon_144 hl (by decide) rfl (fun ls hl => ?_)
            refine lv_aload_n hx hb d_MO_reckon_146 rfl (lv_at hl 6 rfl) ?_
            refine lv_iload_n hx hb d_MO_reckon_147 rfl (lv_at hl 7 rfl) ?_
            refine lv_iconst (v := 3) hx hb d_MO_reckon_148 (by decide) ?_
            refine lv_lload_n hx hb d_MO_reckon_149 rfl (lv_at hl 8 rfl) ?_
            refine lv_lload hx hb d_MO_reckon_150 (lv_at hl 9 rfl) ?_
            refine f_calli hI (f_runV C hI (c_MO_holds l G h_93 _ x nf lot 3 day on fl fk fd fw fv mf_92 g_x hFc (by omega) (by omega) (by omega) (by omega)) gm_MO_holds w_1028 p_MO_holds w_1026 g_x rfl rfl rfl hl.1 rfl (Nat.le_of_ble_eq_true rfl) ⟨Nat.le_of_ble_eq_true rfl, Nat.le_of_ble_eq_true rfl⟩ d_MO_reckon_152 ⟨Nat.le_of_ble_eq_true rfl, Nat.le_of_ble_eq_true rfl⟩) (fun r_102 h9 H9 locs hp9 hX9 hz9 hI => ?_)
            obtain ⟨rfl, e9⟩ := hp9
            rw [e9] at hI
            clear hX9 e9
            refine lv_istore (lv' := [(15, .int (bI (hk fl fk fd fw lot 3 day on nf))), (14, .int (oN (ff (fp rr e1 1 (fv i0) 0) 0 (rm e1)))), (13, .int (-1)), (11, .long (lN (fv i2))), (9, .long (lN (fv i1))), (7, .long (lN (fv i0))), (6, .int (nI e1)), (0, .ref x), (1, .int (nI lot)), (2, .long (lN day)), (4, .long (lN on))]) hx hb d_MO_reckon_155 hl (by decide) rfl (fun ls hl => ?_)
            refine lv_aload_n hx hb d_MO_reckon_157 rfl (lv_at hl 7 rfl) ?_
            refine lv_iload hx hb d_MO_reckon_158 (lv_at hl 2 rfl) ?_
            refine lv_iconst (v := (-1)) hx hb d_MO_reckon_160 (by decide) ?_
            refine lv_icmp_ne (tgt := 169) hx hb d_MO_reckon_161 (by decide) (fun c_103 => absurd rfl c_103) (fun c_103 => ?_)
            refine lv_bipush (v := 21) hx hb d_MO_reckon_164 (by decide) ?_
            refine lv_goto (tgt := 170) hx hb d_MO_reckon_166 (by decide) ?_
            refine f_put (C := "DutyRulesModel") (T := T_MO) (N := 40) (fs' := mo (va_up mf_92 14 (.int 21))) (v := .int 21) hx hb (fun w q => hT w (s_MO w q)) t_MO k_MO n_MO hown hK hI g_x (by decide) rfl 14 (by decide) (hT _ w_823) (fun _ q => q) rfl rfl rfl (by rw [mo_len]; decide) (mo_set _) d_MO_reckon_170 (fun H locs hI => ?_)
            generalize emf_104 : va_up mf_92 14 (.int 21) = mf_104 at hI
            have v_11 : mf_104 11 = .ref a11 := by rw [← emf_104, va_up_ne _ _ (by decide)]; exact v_11
            have v_15 : mf_104 15 = .ref a15 := by rw [← emf_104, va_up_ne _ _ (by decide)]; exact v_15
            have v_16 : mf_104 16 = .ref a16 := by rw [← emf_104, va_up_ne _ _ (by decide)]; exact v_16
            have v_17 : mf_104 17 = .ref a17 := by rw [← emf_104, va_up_ne _ _ (by decide)]; exact v_17
            have v_18 : mf_104 18 = .int 0 := by rw [← emf_104, va_up_ne _ _ (by decide)]; exact v_18
            have v_19 : mf_104 19 = .long 0 := by rw [← emf_104, va_up_ne _ _ (by decide)]; exact v_19
            have v_20 : mf_104 20 = .long 0 := by rw [← emf_104, va_up_ne _ _ (by decide)]; exact v_20
            have v_14 : mf_104 14 = .int 21 := by rw [← emf_104, va_up_self]
            generalize eh_105 : fU h_93 x (40, 0, .inr (8, mo mf_104)) = h_105 at hI
            have hX := hX.set (e := .inr (8, mo mf_104)) g_x (by decide); rw [eh_105] at hX
            have hF := hF.set (e := .inr (8, mo mf_104)) g_x (by decide); rw [eh_105] at hF
            have g_a15 : h_105 a15 = some (56, 0, .inl ((G.2.1 0), 5, .inl (fun i => nI (sl i)))) := by rw [← eh_105]; exact fU_keep g_a15 (f_neR g_a15 g_x (by decide))
            have g_a16 : h_105 a16 = some (57, 0, .inl ((G.2.1 0), 5, .inl (fun i => nI (sr i)))) := by rw [← eh_105]; exact fU_keep g_a16 (f_neR g_a16 g_x (by decide))
            have g_a17 : h_105 a17 = some (58, 0, .inl ((G.2.1 1), 5, .inr (.inl (fun i => lN (sc i))))) := by rw [← eh_105]; exact fU_keep g_a17 (f_neR g_a17 g_x (by decide))
            have g_a11 : h_105 a11 = some (52, 0, .inl ((G.2.1 1), 300, .inr (.inl (fun i => lN (fv i))))) := by rw [← eh_105]; exact fU_keep g_a11 (f_neR g_a11 g_x (by decide))
            have hW9 : fF (inR [40]) h_93 h_105 := by rw [← eh_105]; exact fF.rf.set g_x (by decide)
            have g_x : h_105 x = some (40, 0, .inr (8, mo mf_104)) := by rw [← eh_105]; exact fU_self _ _ _
            have hFc := mFc.keep (mf' := mf_104) hFc (fun j _ _ => by rw [← emf_104]; exact va_up_ne _ _ (by omega)) hW9 (by decide)
            have hEd := mEd.keep (mf' := mf_104) hEd (fun j _ _ => by rw [← emf_104]; exact va_up_ne _ _ (by omega)) hW9 (by decide)
            have hm1 : ∀ j, j < 14 ∨ 20 < j → mf_104 j = mf j := fun j hj => by rw [← emf_104, va_up_ne _ _ (by omega)]; exact hm1 j hj
            refine lv_iload hx hb d_MO_reckon_173 (lv_at hl 2 rfl) ?_
            refine lv_iconst (v := (-1)) hx hb d_MO_reckon_175 (by decide) ?_
            refine lv_icmp_eq (tgt := 191) hx hb d_MO_reckon_176 (by decide) (fun c_106 => ?_) (fun c_106 => absurd rfl c_106)
            refine lv_iconst (v := 0) hx hb d_MO_reckon_191 (by decide) ?_
            exact f_zret C hr rfl hI ⟨by rw [hrk]; rfl, mf_104, g_x, hm1, by rw [hrk]; exact ⟨sl, sr, sc, ⟨a15, a16, a17, ⟨v_14, v_15, v_16, v_17, v_18, v_19, v_20⟩, ⟨g_a15, g_a16, g_a17⟩⟩, fun i q hi => by simp [d0] at hi⟩, hF⟩ hX (Nat.le_refl _) (Nat.le_refl _) d_MO_reckon_192
          · skip
            obtain ⟨-, rate2, rate3⟩ := ff_in eR
            have hkrate := fp_k rate3
            have hokrate := brk e1 rate be (by omega)
            have hrm := brm e1
            have hrt := hokrate.2.2.1 hkrate
            by_cases h3 : (mF rr rm e1 1 (fv i0) 0).isSome = true ∧ ((mK nf fl fk fd fw fv lot day on) 3).isNone = true
            · have hrk : rk (mK nf fl fk fd fw fv lot day on) (mE ne ef rr rm day) = (3, d0) := by rw [hed]; show rkE _ _ _ = _; unfold rkE; simp only [hK0, hK1, hK2]; rw [show mF rr rm e1 0 (fv i0) (fv i1) = some rate from eR]; exact if_pos h3
              rcases eS : ff (fp rr e1 1 (fv i0) 0) 0 (rm e1) with _ | r
              · have h4 := h3.1; unfold mF at h4; rw [eS] at h4; cases h4
              · obtain ⟨-, r2, r3⟩ := ff_in eS
                rcases hk_ix (fl := fl) (fk := fk) (fd := fd) (fw := fw) (lot := lot) (kind := 3) (day := day) (on := on) nf with e3 | ⟨i3, hi3, e3, hh3⟩
                · skip
                  refine lv_aload_n hx hb d_MO_reckon_0 rfl (lv_at hl 0 rfl) ?_
                  refine lv_iconst (v := 0) hx hb d_MO_reckon_1 (by decide) ?_
                  refine f_put (C := "DutyRulesModel") (T := T_MO) (N := 40) (fs' := mo (va_up mf 18 (.int 0))) (v := .int 0) hx hb (fun w q => hT w (s_MO w q)) t_MO k_MO n_MO hown hK hI g_x (by decide) rfl 18 (by decide) (hT _ w_827) (fun _ q => q) rfl rfl rfl (by rw [mo_len]; decide) (mo_set _) d_MO_reckon_2 (fun H locs hI => ?_)
                  generalize emf_107 : va_up mf 18 (.int 0) = mf_107 at hI
                  have v_11 : mf_107 11 = .ref a11 := by rw [← emf_107, va_up_ne _ _ (by decide)]; exact v_11
                  have v_14 : mf_107 14 = .int rs := by rw [← emf_107, va_up_ne _ _ (by decide)]; exact v_14
                  have v_15 : mf_107 15 = .ref a15 := by rw [← emf_107, va_up_ne _ _ (by decide)]; exact v_15
                  have v_16 : mf_107 16 = .ref a16 := by rw [← emf_107, va_up_ne _ _ (by decide)]; exact v_16
                  have v_17 : mf_107 17 = .ref a17 := by rw [← emf_107, va_up_ne _ _ (by decide)]; exact v_17
                  have v_19 : mf_107 19 = .long (lN fr) := by rw [← emf_107, va_up_ne _ _ (by decide)]; exact v_19
                  have v_20 : mf_107 20 = .long (lN ce) := by rw [← emf_107, va_up_ne _ _ (by decide)]; exact v_20
                  have v_18 : mf_107 18 = .int 0 := by rw [← emf_107, va_up_self]
                  generalize eh_108 : fU h x (40, 0, .inr (8, mo mf_107)) = h_108 at hI
                  have hX := hX.set (e := .inr (8, mo mf_107)) g_x (by decide); rw [eh_108] at hX
                  have hF := hF.set (e := .inr (8, mo mf_107)) g_x (by decide); rw [eh_108] at hF
                  have g_a15 : h_108 a15 = some (56, 0, .inl ((G.2.1 0), 5, .inl (fun i => nI (sl i)))) := by rw [← eh_108]; exact fU_keep g_a15 (f_neR g_a15 g_x (by decide))
                  have g_a16 : h_108 a16 = some (57, 0, .inl ((G.2.1 0), 5, .inl (fun i => nI (sr i)))) := by rw [← eh_108]; exact fU_keep g_a16 (f_neR g_a16 g_x (by decide))
                  have g_a17 : h_108 a17 = some (58, 0, .inl ((G.2.1 1), 5, .inr (.inl (fun i => lN (sc i))))) := by rw [← eh_108]; exact fU_keep g_a17 (f_neR g_a17 g_x (by decide))
                  have g_a11 : h_108 a11 = some (52, 0, .inl ((G.2.1 1), 300, .inr (.inl (fun i => lN (fv i))))) := by rw [← eh_108]; exact fU_keep g_a11 (f_neR g_a11 g_x (by decide))
                  have hW9 : fF (inR [40]) h h_108 := by rw [← eh_108]; exact fF.rf.set g_x (by decide)
                  have g_x : h_108 x = some (40, 0, .inr (8, mo mf_107)) := by rw [← eh_108]; exact fU_self _ _ _
                  have hFc := mFc.keep (mf' := mf_107) hFc (fun j _ _ => by rw [← emf_107]; exact va_up_ne _ _ (by omega)) hW9 (by decide)
                  have hEd := mEd.keep (mf' := mf_107) hEd (fun j _ _ => by rw [← emf_107]; exact va_up_ne _ _ (by omega)) hW9 (by decide)
                  have hm1 : ∀ j, j < 14 ∨ 20 < j → mf_107 j = mf j := fun j hj => by rw [← emf_107, va_up_ne _ _ (by omega)]; exact hm1 j hj
                  refine lv_aload_n hx hb d_MO_reckon_5 rfl (lv_at hl 0 rfl) ?_
                  refine lv_lconst (v := 0) hx hb d_MO_reckon_6 (by decide) ?_
                  refine f_put (C := "DutyRulesModel") (T := T_MO) (N := 40) (fs' := mo (va_up mf_107 19 (.long 0))) (v := .long 0) hx hb (fun w q => hT w (s_MO w q)) t_MO k_MO n_MO hown hK hI g_x (by decide) rfl 19 (by decide) (hT _ w_828) (fun _ q => q) rfl rfl rfl (by rw [mo_len]; decide) (mo_set _) d_MO_reckon_7 (fun H locs hI => ?_)
                  generalize emf_109 : va_up mf_107 19 (.long 0) = mf_109 at hI
                  have v_11 : mf_109 11 = .ref a11 := by rw [← emf_109, va_up_ne _ _ (by decide)]; exact v_11
                  have v_14 : mf_109 14 = .int rs := by rw [← emf_109, va_up_ne _ _ (by decide)]; exact v_14
                  have v_15 : mf_109 15 = .ref a15 := by rw [← emf_109, va_up_ne _ _ (by decide)]; exact v_15
                  have v_16 : mf_109 16 = .ref a16 := by rw [← emf_109, va_up_ne _ _ (by decide)]; exact v_16
                  have v_17 : mf_109 17 = .ref a17 := by rw [← emf_109, va_up_ne _ _ (by decide)]; exact v_17
                  have v_18 : mf_109 18 = .int 0 := by rw [← emf_109, va_up_ne _ _ (by decide)]; exact v_18
                  have v_20 : mf_109 20 = .long (lN ce) := by rw [← emf_109, va_up_ne _ _ (by decide)]; exact v_20
                  have v_19 : mf_109 19 = .long 0 := by rw [← emf_109, va_up_self]
                  generalize eh_110 : fU h_108 x (40, 0, .inr (8, mo mf_109)) = h_110 at hI
                  have hX := hX.set (e := .inr (8, mo mf_109)) g_x (by decide); rw [eh_110] at hX
                  have hF := hF.set (e := .inr (8, mo mf_109)) g_x (by decide); rw [eh_110] at hF
                  have g_a15 : h_110 a15 = some (56, 0, .inl ((G.2.1 0), 5, .inl (fun i => nI (sl i)))) := by rw [← eh_110]; exact fU_keep g_a15 (f_neR g_a15 g_x (by decide))
                  have g_a16 : h_110 a16 = some (57, 0, .inl ((G.2.1 0), 5, .inl (fun i => nI (sr i)))) := by rw [← eh_110]; exact fU_keep g_a16 (f_neR g_a16 g_x (by decide))
                  have g_a17 : h_110 a17 = some (58, 0, .inl ((G.2.1 1), 5, .inr (.inl (fun i => lN (sc i))))) := by rw [← eh_110]; exact fU_keep g_a17 (f_neR g_a17 g_x (by decide))
                  have g_a11 : h_110 a11 = some (52, 0, .inl ((G.2.1 1), 300, .inr (.inl (fun i => lN (fv i))))) := by rw [← eh_110]; exact fU_keep g_a11 (f_neR g_a11 g_x (by decide))
                  have hW9 : fF (inR [40]) h_108 h_110 := by rw [← eh_110]; exact fF.rf.set g_x (by decide)
                  have g_x : h_110 x = some (40, 0, .inr (8, mo mf_109)) := by rw [← eh_110]; exact fU_self _ _ _
                  have hFc := mFc.keep (mf' := mf_109) hFc (fun j _ _ => by rw [← emf_109]; exact va_up_ne _ _ (by omega)) hW9 (by decide)
                  have hEd := mEd.keep (mf' := mf_109) hEd (fun j _ _ => by rw [← emf_109]; exact va_up_ne _ _ (by omega)) hW9 (by decide)
                  have hm1 : ∀ j, j < 14 ∨ 20 < j → mf_109 j = mf j := fun j hj => by rw [← emf_109, va_up_ne _ _ (by omega)]; exact hm1 j hj
                  refine lv_aload_n hx hb d_MO_reckon_10 rfl (lv_at hl 0 rfl) ?_
                  refine lv_lconst (v := 0) hx hb d_MO_reckon_11 (by decide) ?_
                  refine f_put (C := "DutyRulesModel") (T := T_MO) (N := 40) (fs' := mo (va_up mf_109 20 (.long 0))) (v := .long 0) hx hb (fun w q => hT w (s_MO w q)) t_MO k_MO n_MO hown hK hI g_x (by decide) rfl 20 (by decide) (hT _ w_829) (fun _ q => q) rfl rfl rfl (by rw [mo_len]; decide) (mo_set _) d_MO_reckon_12 (fun H locs hI => ?_)
                  generalize emf_111 : va_up mf_109 20 (.long 0) = mf_111 at hI
                  have v_11 : mf_111 11 = .ref a11 := by rw [← emf_111, va_up_ne _ _ (by decide)]; exact v_11
                  have v_14 : mf_111 14 = .int rs := by rw [← emf_111, va_up_ne _ _ (by decide)]; exact v_14
                  have v_15 : mf_111 15 = .ref a15 := by rw [← emf_111, va_up_ne _ _ (by decide)]; exact v_15
                  have v_16 : mf_111 16 = .ref a16 := by rw [← emf_111, va_up_ne _ _ (by decide)]; exact v_16
                  have v_17 : mf_111 17 = .ref a17 := by rw [← emf_111, va_up_ne _ _ (by decide)]; exact v_17
                  have v_18 : mf_111 18 = .int 0 := by rw [← emf_111, va_up_ne _ _ (by decide)]; exact v_18
                  have v_19 : mf_111 19 = .long 0 := by rw [← emf_111, va_up_ne _ _ (by decide)]; exact v_19
                  have v_20 : mf_111 20 = .long 0 := by rw [← emf_111, va_up_self]
                  generalize eh_112 : fU h_110 x (40, 0, .inr (8, mo mf_111)) = h_112 at hI
                  have hX := hX.set (e := .inr (8, mo mf_111)) g_x (by decide); rw [eh_112] at hX
                  have hF := hF.set (e := .inr (8, mo mf_111)) g_x (by decide); rw [eh_112] at hF
                  have g_a15 : h_112 a15 = some (56, 0, .inl ((G.2.1 0), 5, .inl (fun i => nI (sl i)))) := by rw [← eh_112]; exact fU_keep g_a15 (f_neR g_a15 g_x (by decide))
                  have g_a16 : h_112 a16 = some (57, 0, .inl ((G.2.1 0), 5, .inl (fun i => nI (sr i)))) := by rw [← eh_112]; exact fU_keep g_a16 (f_neR g_a16 g_x (by decide))
                  have g_a17 : h_112 a17 = some (58, 0, .inl ((G.2.1 1), 5, .inr (.inl (fun i => lN (sc i))))) := by rw [← eh_112]; exact fU_keep g_a17 (f_neR g_a17 g_x (by decide))
                  have g_a11 : h_112 a11 = some (52, 0, .inl ((G.2.1 1), 300, .inr (.inl (fun i => lN (fv i))))) := by rw [← eh_112]; exact fU_keep g_a11 (f_neR g_a11 g_x (by decide))
                  have hW9 : fF (inR [40]) h_110 h_112 := by rw [← eh_112]; exact fF.rf.set g_x (by decide)
                  have g_x : h_112 x = some (40, 0, .inr (8, mo mf_111)) := by rw [← eh_112]; exact fU_self _ _ _
                  have hFc := mFc.keep (mf' := mf_111) hFc (fun j _ _ => by rw [← emf_111]; exact va_up_ne _ _ (by omega)) hW9 (by decide)
                  have hEd := mEd.keep (mf' := mf_111) hEd (fun j _ _ => by rw [← emf_111]; exact va_up_ne _ _ (by omega)) hW9 (by decide)
                  have hm1 : ∀ j, j < 14 ∨ 20 < j → mf_111 j = mf j := fun j hj => by rw [← emf_111, va_up_ne _ _ (by omega)]; exact hm1 j hj
                  refine lv_aload_n hx hb d_MO_reckon_15 rfl (lv_at hl 0 rfl) ?_
                  refine lv_lload_n hx hb d_MO_reckon_16 rfl (lv_at hl 2 rfl) ?_
                  refine f_calli hI (f_runV C hI (c_MO_editionOf l G h_112 _ x day mf_111 g_x ne ef rr rm hEd (by omega)) gm_MO_editionOf w_1024 p_MO_editionOf w_1022 g_x rfl rfl rfl hl.1 rfl (Nat.le_of_ble_eq_true rfl) ⟨Nat.le_of_ble_eq_true rfl, Nat.le_of_ble_eq_true rfl⟩ d_MO_reckon_17 ⟨Nat.le_of_ble_eq_true rfl, Nat.le_of_ble_eq_true rfl⟩) (fun r_113 h9 H9 locs hp9 hX9 hz9 hI => ?_)
                  obtain ⟨rfl, e9⟩ := hp9
                  rw [e9] at hI
                  clear hX9 e9
                  rw [en]
                  refine lv_istore (lv' := [(6, .int (nI e1)), (0, .ref x), (1, .int (nI lot)), (2, .long (lN day)), (4, .long (lN on))]) hx hb d_MO_reckon_20 hl (by decide) rfl (fun ls hl => ?_)
                  refine lv_aload_n hx hb d_MO_reckon_22 rfl (lv_at hl 1 rfl) ?_
                  refine lv_bipush (v := 20) hx hb d_MO_reckon_23 (by decide) ?_
                  refine f_put (C := "DutyRulesModel") (T := T_MO) (N := 40) (fs' := mo (va_up mf_111 14 (.int 20))) (v := .int 20) hx hb (fun w q => hT w (s_MO w q)) t_MO k_MO n_MO hown hK hI g_x (by decide) rfl 14 (by decide) (hT _ w_823) (fun _ q => q) rfl rfl rfl (by rw [mo_len]; decide) (mo_set _) d_MO_reckon_25 (fun H locs hI => ?_)
                  generalize emf_114 : va_up mf_111 14 (.int 20) = mf_114 at hI
                  have v_11 : mf_114 11 = .ref a11 := by rw [← emf_114, va_up_ne _ _ (by decide)]; exact v_11
                  have v_15 : mf_114 15 = .ref a15 := by rw [← emf_114, va_up_ne _ _ (by decide)]; exact v_15
                  have v_16 : mf_114 16 = .ref a16 := by rw [← emf_114, va_up_ne _ _ (by decide)]; exact v_16
                  have v_17 : mf_114 17 = .ref a17 := by rw [← emf_114, va_up_ne _ _ (by decide)]; exact v_17
                  have v_18 : mf_114 18 = .int 0 := by rw [← emf_114, va_up_ne _ _ (by decide)]; exact v_18
                  have v_19 : mf_114 19 = .long 0 := by rw [← emf_114, va_up_ne _ _ (by decide)]; exact v_19
                  have v_20 : mf_114 20 = .long 0 := by rw [← emf_114, va_up_ne _ _ (by decide)]; exact v_20
                  have v_14 : mf_114 14 = .int 20 := by rw [← emf_114, va_up_self]
                  generalize eh_115 : fU h_112 x (40, 0, .inr (8, mo mf_114)) = h_115 at hI
                  have hX := hX.set (e := .inr (8, mo mf_114)) g_x (by decide); rw [eh_115] at hX
                  have hF := hF.set (e := .inr (8, mo mf_114)) g_x (by decide); rw [eh_115] at hF
                  have g_a15 : h_115 a15 = some (56, 0, .inl ((G.2.1 0), 5, .inl (fun i => nI (sl i)))) := by rw [← eh_115]; exact fU_keep g_a15 (f_neR g_a15 g_x (by decide))
                  have g_a16 : h_115 a16 = some (57, 0, .inl ((G.2.1 0), 5, .inl (fun i => nI (sr i)))) := by rw [← eh_115]; exact fU_keep g_a16 (f_neR g_a16 g_x (by decide))
                  have g_a17 : h_115 a17 = some (58, 0, .inl ((G.2.1 1), 5, .inr (.inl (fun i => lN (sc i))))) := by rw [← eh_115]; exact fU_keep g_a17 (f_neR g_a17 g_x (by decide))
                  have g_a11 : h_115 a11 = some (52, 0, .inl ((G.2.1 1), 300, .inr (.inl (fun i => lN (fv i))))) := by rw [← eh_115]; exact fU_keep g_a11 (f_neR g_a11 g_x (by decide))
                  have hW9 : fF (inR [40]) h_112 h_115 := by rw [← eh_115]; exact fF.rf.set g_x (by decide)
                  have g_x : h_115 x = some (40, 0, .inr (8, mo mf_114)) := by rw [← eh_115]; exact fU_self _ _ _
                  have hFc := mFc.keep (mf' := mf_114) hFc (fun j _ _ => by rw [← emf_114]; exact va_up_ne _ _ (by omega)) hW9 (by decide)
                  have hEd := mEd.keep (mf' := mf_114) hEd (fun j _ _ => by rw [← emf_114]; exact va_up_ne _ _ (by omega)) hW9 (by decide)
                  have hm1 : ∀ j, j < 14 ∨ 20 < j → mf_114 j = mf j := fun j hj => by rw [← emf_114, va_up_ne _ _ (by omega)]; exact hm1 j hj
                  refine lv_iload hx hb d_MO_reckon_28 (lv_at hl 0 rfl) ?_
                  refine lv_iconst (v := (-1)) hx hb d_MO_reckon_30 (by decide) ?_
                  refine lv_icmp_ne (tgt := 36) hx hb d_MO_reckon_31 (by decide) (fun c_116 => ?_) (fun c_116 => absurd c_116 (n_m1 (by omega)))
                  refine lv_iconst (v := 0) hx hb d_MO_reckon_36 (by decide) ?_
                  refine lv_istore (lv' := [(7, .int 0), (6, .int (nI e1)), (0, .ref x), (1, .int (nI lot)), (2, .long (lN day)), (4, .long (lN on))]) hx hb d_MO_reckon_37 hl (by decide) rfl (fun ls hl => ?_)
                  refine lv_iload hx hb d_MO_reckon_39 (lv_at hl 0 rfl) ?_
                  refine lv_iconst (v := 3) hx hb d_MO_reckon_41 (by decide) ?_
                  refine lv_icmp_ge (tgt := 73) hx hb d_MO_reckon_42 (by decide) (fun c_117 => absurd c_117 (by decide)) (fun c_117 => ?_)
                  refine lv_aload_n hx hb d_MO_reckon_45 rfl (lv_at hl 2 rfl) ?_
                  refine lv_iload hx hb d_MO_reckon_46 (lv_at hl 0 rfl) ?_
                  refine f_put (C := "DutyRulesModel") (T := T_MO) (N := 40) (fs' := mo (va_up mf_114 14 (.int 0))) (v := .int 0) hx hb (fun w q => hT w (s_MO w q)) t_MO k_MO n_MO hown hK hI g_x (by decide) rfl 14 (by decide) (hT _ w_823) (fun _ q => q) rfl rfl rfl (by rw [mo_len]; decide) (mo_set _) d_MO_reckon_48 (fun H locs hI => ?_)
                  generalize emf_118 : va_up mf_114 14 (.int 0) = mf_118 at hI
                  have v_11 : mf_118 11 = .ref a11 := by rw [← emf_118, va_up_ne _ _ (by decide)]; exact v_11
                  have v_15 : mf_118 15 = .ref a15 := by rw [← emf_118, va_up_ne _ _ (by decide)]; exact v_15
                  have v_16 : mf_118 16 = .ref a16 := by rw [← emf_118, va_up_ne _ _ (by decide)]; exact v_16
                  have v_17 : mf_118 17 = .ref a17 := by rw [← emf_118, va_up_ne _ _ (by decide)]; exact v_17
                  have v_18 : mf_118 18 = .int 0 := by rw [← emf_118, va_up_ne _ _ (by decide)]; exact v_18
                  have v_19 : mf_118 19 = .long 0 := by rw [← emf_118, va_up_ne _ _ (by decide)]; exact v_19
                  have v_20 : mf_118 20 = .long 0 := by rw [← emf_118, va_up_ne _ _ (by decide)]; exact v_20
                  have v_14 : mf_118 14 = .int 0 := by rw [← emf_118, va_up_self]
                  generalize eh_119 : fU h_115 x (40, 0, .inr (8, mo mf_118)) = h_119 at hI
                  have hX := hX.set (e := .inr (8, mo mf_118)) g_x (by decide); rw [eh_119] at hX
                  have hF := hF.set (e := .inr (8, mo mf_118)) g_x (by decide); rw [eh_119] at hF
                  have g_a15 : h_119 a15 = some (56, 0, .inl ((G.2.1 0), 5, .inl (fun i => nI (sl i)))) := by rw [← eh_119]; exact fU_keep g_a15 (f_neR g_a15 g_x (by decide))
                  have g_a16 : h_119 a16 = some (57, 0, .inl ((G.2.1 0), 5, .inl (fun i => nI (sr i)))) := by rw [← eh_119]; exact fU_keep g_a16 (f_neR g_a16 g_x (by decide))
                  have g_a17 : h_119 a17 = some (58, 0, .inl ((G.2.1 1), 5, .inr (.inl (fun i => lN (sc i))))) := by rw [← eh_119]; exact fU_keep g_a17 (f_neR g_a17 g_x (by decide))
                  have g_a11 : h_119 a11 = some (52, 0, .inl ((G.2.1 1), 300, .inr (.inl (fun i => lN (fv i))))) := by rw [← eh_119]; exact fU_keep g_a11 (f_neR g_a11 g_x (by decide))
                  have hW9 : fF (inR [40]) h_115 h_119 := by rw [← eh_119]; exact fF.rf.set g_x (by decide)
                  have g_x : h_119 x = some (40, 0, .inr (8, mo mf_118)) := by rw [← eh_119]; exact fU_self _ _ _
                  have hFc := mFc.keep (mf' := mf_118) hFc (fun j _ _ => by rw [← emf_118]; exact va_up_ne _ _ (by omega)) hW9 (by decide)
                  have hEd := mEd.keep (mf' := mf_118) hEd (fun j _ _ => by rw [← emf_118]; exact va_up_ne _ _ (by omega)) hW9 (by decide)
                  have hm1 : ∀ j, j < 14 ∨ 20 < j → mf_118 j = mf j := fun j hj => by rw [← emf_118, va_up_ne _ _ (by omega)]; exact hm1 j hj
                  refine lv_aload_n hx hb d_MO_reckon_51 rfl (lv_at hl 2 rfl) ?_
                  refine lv_iload_n hx hb d_MO_reckon_52 rfl (lv_at hl 3 rfl) ?_
                  refine lv_iload hx hb d_MO_reckon_53 (lv_at hl 0 rfl) ?_
                  refine lv_lload_n hx hb d_MO_reckon_55 rfl (lv_at hl 4 rfl) ?_
                  refine lv_lload hx hb d_MO_reckon_56 (lv_at hl 5 rfl) ?_
                  refine f_calli hI (f_runV C hI (c_MO_holds l G h_119 _ x nf lot 0 day on fl fk fd fw fv mf_118 g_x hFc (by omega) (by omega) (by omega) (by omega)) gm_MO_holds w_1028 p_MO_holds w_1026 g_x rfl rfl rfl hl.1 rfl (Nat.le_of_ble_eq_true rfl) ⟨Nat.le_of_ble_eq_true rfl, Nat.le_of_ble_eq_true rfl⟩ d_MO_reckon_58 ⟨Nat.le_of_ble_eq_true rfl, Nat.le_of_ble_eq_true rfl⟩) (fun r_120 h9 H9 locs hp9 hX9 hz9 hI => ?_)
                  obtain ⟨rfl, e9⟩ := hp9
                  rw [e9] at hI
                  clear hX9 e9
                  rw [e0, bI_k (by omega)]
                  refine lv_iconst (v := (-1)) hx hb d_MO_reckon_61 (by decide) ?_
                  refine lv_icmp_ne (tgt := 67) hx hb d_MO_reckon_62 (by decide) (fun c_121 => ?_) (fun c_121 => absurd c_121 (n_m1 (by omega)))
                  refine lv_iinc (v := 1) (lv' := [(7, .int 1), (6, .int (nI e1)), (0, .ref x), (1, .int (nI lot)), (2, .long (lN day)), (4, .long (lN on))]) hx hb d_MO_reckon_67 hl (k := 0) rfl (by decide) (by decide) rfl (fun ls hl => ?_)
                  refine lv_goto (tgt := 39) hx hb d_MO_reckon_70 (by decide) ?_
                  refine lv_iload hx hb d_MO_reckon_39 (lv_at hl 0 rfl) ?_
                  refine lv_iconst (v := 3) hx hb d_MO_reckon_41 (by decide) ?_
                  refine lv_icmp_ge (tgt := 73) hx hb d_MO_reckon_42 (by decide) (fun c_122 => absurd c_122 (by decide)) (fun c_122 => ?_)
                  refine lv_aload_n hx hb d_MO_reckon_45 rfl (lv_at hl 2 rfl) ?_
                  refine lv_iload hx hb d_MO_reckon_46 (lv_at hl 0 rfl) ?_
                  refine f_put (C := "DutyRulesModel") (T := T_MO) (N := 40) (fs' := mo (va_up mf_118 14 (.int 1))) (v := .int 1) hx hb (fun w q => hT w (s_MO w q)) t_MO k_MO n_MO hown hK hI g_x (by decide) rfl 14 (by decide) (hT _ w_823) (fun _ q => q) rfl rfl rfl (by rw [mo_len]; decide) (mo_set _) d_MO_reckon_48 (fun H locs hI => ?_)
                  generalize emf_123 : va_up mf_118 14 (.int 1) = mf_123 at hI
                  have v_11 : mf_123 11 = .ref a11 := by rw [← emf_123, va_up_ne _ _ (by decide)]; exact v_11
                  have v_15 : mf_123 15 = .ref a15 := by rw [← emf_123, va_up_ne _ _ (by decide)]; exact v_15
                  have v_16 : mf_123 16 = .ref a16 := by rw [← emf_123, va_up_ne _ _ (by decide)]; exact v_16
                  have v_17 : mf_123 17 = .ref a17 := by rw [← emf_123, va_up_ne _ _ (by decide)]; exact v_17
                  have v_18 : mf_123 18 = .int 0 := by rw [← emf_123, va_up_ne _ _ (by decide)]; exact v_18
                  have v_19 : mf_123 19 = .long 0 := by rw [← emf_123, va_up_ne _ _ (by decide)]; exact v_19
                  have v_20 : mf_123 20 = .long 0 := by rw [← emf_123, va_up_ne _ _ (by decide)]; exact v_20
                  have v_14 : mf_123 14 = .int 1 := by rw [← emf_123, va_up_self]
                  generalize eh_124 : fU h_119 x (40, 0, .inr (8, mo mf_123)) = h_124 at hI
                  have hX := hX.set (e := .inr (8, mo mf_123)) g_x (by decide); rw [eh_124] at hX
                  have hF := hF.set (e := .inr (8, mo mf_123)) g_x (by decide); rw [eh_124] at hF
                  have g_a15 : h_124 a15 = some (56, 0, .inl ((G.2.1 0), 5, .inl (fun i => nI (sl i)))) := by rw [← eh_124]; exact fU_keep g_a15 (f_neR g_a15 g_x (by decide))
                  have g_a16 : h_124 a16 = some (57, 0, .inl ((G.2.1 0), 5, .inl (fun i => nI (sr i)))) := by rw [← eh_124]; exact fU_keep g_a16 (f_neR g_a16 g_x (by decide))
                  have g_a17 : h_124 a17 = some (58, 0, .inl ((G.2.1 1), 5, .inr (.inl (fun i => lN (sc i))))) := by rw [← eh_124]; exact fU_keep g_a17 (f_neR g_a17 g_x (by decide))
                  have g_a11 : h_124 a11 = some (52, 0, .inl ((G.2.1 1), 300, .inr (.inl (fun i => lN (fv i))))) := by rw [← eh_124]; exact fU_keep g_a11 (f_neR g_a11 g_x (by decide))
                  have hW9 : fF (inR [40]) h_119 h_124 := by rw [← eh_124]; exact fF.rf.set g_x (by decide)
                  have g_x : h_124 x = some (40, 0, .inr (8, mo mf_123)) := by rw [← eh_124]; exact fU_self _ _ _
                  have hFc := mFc.keep (mf' := mf_123) hFc (fun j _ _ => by rw [← emf_123]; exact va_up_ne _ _ (by omega)) hW9 (by decide)
                  have hEd := mEd.keep (mf' := mf_123) hEd (fun j _ _ => by rw [← emf_123]; exact va_up_ne _ _ (by omega)) hW9 (by decide)
                  have hm1 : ∀ j, j < 14 ∨ 20 < j → mf_123 j = mf j := fun j hj => by rw [← emf_123, va_up_ne _ _ (by omega)]; exact hm1 j hj
                  refine lv_aload_n hx hb d_MO_reckon_51 rfl (lv_at hl 2 rfl) ?_
                  refine lv_iload_n hx hb d_MO_reckon_52 rfl (lv_at hl 3 rfl) ?_
                  refine lv_iload hx hb d_MO_reckon_53 (lv_at hl 0 rfl) ?_
                  refine lv_lload_n hx hb d_MO_reckon_55 rfl (lv_at hl 4 rfl) ?_
                  refine lv_lload hx hb d_MO_reckon_56 (lv_at hl 5 rfl) ?_
                  refine f_calli hI (f_runV C hI (c_MO_holds l G h_124 _ x nf lot 1 day on fl fk fd fw fv mf_123 g_x hFc (by omega) (by omega) (by omega) (by omega)) gm_MO_holds w_1028 p_MO_holds w_1026 g_x rfl rfl rfl hl.1 rfl (Nat.le_of_ble_eq_true rfl) ⟨Nat.le_of_ble_eq_true rfl, Nat.le_of_ble_eq_true rfl⟩ d_MO_reckon_58 ⟨Nat.le_of_ble_eq_true rfl, Nat.le_of_ble_eq_true rfl⟩) (fun r_125 h9 H9 locs hp9 hX9 hz9 hI => ?_)
                  obtain ⟨rfl, e9⟩ := hp9
                  rw [e9] at hI
                  clear hX9 e9
                  rw [e1, bI_k (by omega)]
                  refine lv_iconst (v := (-1)) hx hb d_MO_reckon_61 (by decide) ?_
                  refine lv_icmp_ne (tgt := 67) hx hb d_MO_reckon_62 (by decide) (fun c_126 => ?_) (fun c_126 => absurd c_126 (n_m1 (by omega)))
                  refine lv_iinc (v := 2) (lv' := [(7, .int 2), (6, .int (nI e1)), (0, .ref x), (1, .int (nI lot)), (2, .long (lN day)), (4, .long (lN on))]) hx hb d_MO_reckon_67 hl (k := 0) rfl (by decide) (by decide) rfl (fun ls hl => ?_)
                  refine lv_goto (tgt := 39) hx hb d_MO_reckon_70 (by decide) ?_
                  refine lv_iload hx hb d_MO_reckon_39 (lv_at hl 0 rfl) ?_
                  refine lv_iconst (v := 3) hx hb d_MO_reckon_41 (by decide) ?_
                  refine lv_icmp_ge (tgt := 73) hx hb d_MO_reckon_42 (by decide) (fun c_127 => absurd c_127 (by decide)) (fun c_127 => ?_)
                  refine lv_aload_n hx hb d_MO_reckon_45 rfl (lv_at hl 2 rfl) ?_
                  refine lv_iload hx hb d_MO_reckon_46 (lv_at hl 0 rfl) ?_
                  refine f_put (C := "DutyRulesModel") (T := T_MO) (N := 40) (fs' := mo (va_up mf_123 14 (.int 2))) (v := .int 2) hx hb (fun w q => hT w (s_MO w q)) t_MO k_MO n_MO hown hK hI g_x (by decide) rfl 14 (by decide) (hT _ w_823) (fun _ q => q) rfl rfl rfl (by rw [mo_len]; decide) (mo_set _) d_MO_reckon_48 (fun H locs hI => ?_)
                  generalize emf_128 : va_up mf_123 14 (.int 2) = mf_128 at hI
                  have v_11 : mf_128 11 = .ref a11 := by rw [← emf_128, va_up_ne _ _ (by decide)]; exact v_11
                  have v_15 : mf_128 15 = .ref a15 := by rw [← emf_128, va_up_ne _ _ (by decide)]; exact v_15
                  have v_16 : mf_128 16 = .ref a16 := by rw [← emf_128, va_up_ne _ _ (by decide)]; exact v_16
                  have v_17 : mf_128 17 = .ref a17 := by rw [← emf_128, va_up_ne _ _ (by decide)]; exact v_17
                  have v_18 : mf_128 18 = .int 0 := by rw [← emf_128, va_up_ne _ _ (by decide)]; exact v_18
                  have v_19 : mf_128 19 = .long 0 := by rw [← emf_128, va_up_ne _ _ (by decide)]; exact v_19
                  have v_20 : mf_128 20 = .long 0 := by rw [← emf_128, va_up_ne _ _ (by decide)]; exact v_20
                  have v_14 : mf_128 14 = .int 2 := by rw [← emf_128, va_up_self]
                  generalize eh_129 : fU h_124 x (40, 0, .inr (8, mo mf_128)) = h_129 at hI
                  have hX := hX.set (e := .inr (8, mo mf_128)) g_x (by decide); rw [eh_129] at hX
                  have hF := hF.set (e := .inr (8, mo mf_128)) g_x (by decide); rw [eh_129] at hF
                  have g_a15 : h_129 a15 = some (56, 0, .inl ((G.2.1 0), 5, .inl (fun i => nI (sl i)))) := by rw [← eh_129]; exact fU_keep g_a15 (f_neR g_a15 g_x (by decide))
                  have g_a16 : h_129 a16 = some (57, 0, .inl ((G.2.1 0), 5, .inl (fun i => nI (sr i)))) := by rw [← eh_129]; exact fU_keep g_a16 (f_neR g_a16 g_x (by decide))
                  have g_a17 : h_129 a17 = some (58, 0, .inl ((G.2.1 1), 5, .inr (.inl (fun i => lN (sc i))))) := by rw [← eh_129]; exact fU_keep g_a17 (f_neR g_a17 g_x (by decide))
                  have g_a11 : h_129 a11 = some (52, 0, .inl ((G.2.1 1), 300, .inr (.inl (fun i => lN (fv i))))) := by rw [← eh_129]; exact fU_keep g_a11 (f_neR g_a11 g_x (by decide))
                  have hW9 : fF (inR [40]) h_124 h_129 := by rw [← eh_129]; exact fF.rf.set g_x (by decide)
                  have g_x : h_129 x = some (40, 0, .inr (8, mo mf_128)) := by rw [← eh_129]; exact fU_self _ _ _
                  have hFc := mFc.keep (mf' := mf_128) hFc (fun j _ _ => by rw [← emf_128]; exact va_up_ne _ _ (by omega)) hW9 (by decide)
                  have hEd := mEd.keep (mf' := mf_128) hEd (fun j _ _ => by rw [← emf_128]; exact va_up_ne _ _ (by omega)) hW9 (by decide)
                  have hm1 : ∀ j, j < 14 ∨ 20 < j → mf_128 j = mf j := fun j hj => by rw [← emf_128, va_up_ne _ _ (by omega)]; exact hm1 j hj
                  refine lv_aload_n hx hb d_MO_reckon_51 rfl (lv_at hl 2 rfl) ?_
                  refine lv_iload_n hx hb d_MO_reckon_52 rfl (lv_at hl 3 rfl) ?_
                  refine lv_iload hx hb d_MO_reckon_53 (lv_at hl 0 rfl) ?_
                  refine lv_lload_n hx hb d_MO_reckon_55 rfl (lv_at hl 4 rfl) ?_
                  refine lv_lload hx hb d_MO_reckon_56 (lv_at hl 5 rfl) ?_
                  refine f_calli hI (f_runV C hI (c_MO_holds l G h_129 _ x nf lot 2 day on fl fk fd fw fv mf_128 g_x hFc (by omega) (by omega) (by omega) (by omega)) gm_MO_holds w_1028 p_MO_holds w_1026 g_x rfl rfl rfl hl.1 rfl (Nat.le_of_ble_eq_true rfl) ⟨Nat.le_of_ble_eq_true rfl, Nat.le_of_ble_eq_true rfl⟩ d_MO_reckon_58 ⟨Nat.le_of_ble_eq_true rfl, Nat.le_of_ble_eq_true rfl⟩) (fun r_130 h9 H9 locs hp9 hX9 hz9 hI => ?_)
                  obtain ⟨rfl, e9⟩ := hp9
                  rw [e9] at hI
                  clear hX9 e9
                  rw [e2, bI_k (by omega)]
                  refine lv_iconst (v := (-1)) hx hb d_MO_reckon_61 (by decide) ?_
                  refine lv_icmp_ne (tgt := 67) hx hb d_MO_reckon_62 (by decide) (fun c_131 => ?_) (fun c_131 => absurd c_131 (n_m1 (by omega)))
                  refine lv_iinc (v := 3) (lv' := [(7, .int 3), (6, .int (nI e1)), (0, .ref x), (1, .int (nI lot)), (2, .long (lN day)), (4, .long (lN on))]) hx hb d_MO_reckon_67 hl (k := 0) rfl (by decide) (by decide) rfl (fun ls hl => ?_)
                  refine lv_goto (tgt := 39) hx hb d_MO_reckon_70 (by decide) ?_
                  refine lv_iload hx hb d_MO_reckon_39 (lv_at hl 0 rfl) ?_
                  refine lv_iconst (v := 3) hx hb d_MO_reckon_41 (by decide) ?_
                  refine lv_icmp_ge (tgt := 73) hx hb d_MO_reckon_42 (by decide) (fun c_132 => ?_) (fun c_132 => absurd (by decide) c_132)
                  refine lv_aload_n hx hb d_MO_reckon_73 rfl (lv_at hl 2 rfl) ?_
                  refine f_get (C := "DutyRulesModel") (T := T_MO) (N := 40) hx hb (fun w q => hT w (s_MO w q)) hown hK hI g_x rfl 11 (by decide) (hT _ w_820) (fun _ q => q) (mo_get (by decide) v_11) d_MO_reckon_74 ?_
                  refine lv_aload_n hx hb d_MO_reckon_77 rfl (lv_at hl 2 rfl) ?_
                  refine lv_iload_n hx hb d_MO_reckon_78 rfl (lv_at hl 3 rfl) ?_
                  refine lv_iconst (v := 0) hx hb d_MO_reckon_79 (by decide) ?_
                  refine lv_lload_n hx hb d_MO_reckon_80 rfl (lv_at hl 4 rfl) ?_
                  refine lv_lload hx hb d_MO_reckon_81 (lv_at hl 5 rfl) ?_
                  refine f_calli hI (f_runV C hI (c_MO_holds l G h_129 _ x nf lot 0 day on fl fk fd fw fv mf_128 g_x hFc (by omega) (by omega) (by omega) (by omega)) gm_MO_holds w_1028 p_MO_holds w_1026 g_x rfl rfl rfl hl.1 rfl (Nat.le_of_ble_eq_true rfl) ⟨Nat.le_of_ble_eq_true rfl, Nat.le_of_ble_eq_true rfl⟩ d_MO_reckon_83 ⟨Nat.le_of_ble_eq_true rfl, Nat.le_of_ble_eq_true rfl⟩) (fun r_133 h9 H9 locs hp9 hX9 hz9 hI => ?_)
                  obtain ⟨rfl, e9⟩ := hp9
                  rw [e9] at hI
                  clear hX9 e9
                  rw [e0, bI_k (by omega)]
                  refine f_laldn (k := i0) (v := (lN (fv i0))) hx hb hI g_a11 (fT.ofK hK (t0 := 1) rfl) (by omega) (by omega) rfl d_MO_reckon_86 ?_
                  refine lv_lstore (lv' := [(7, .long (lN (fv i0))), (6, .int (nI e1)), (0, .ref x), (1, .int (nI lot)), (2, .long (lN day)), (4, .long (lN on))]) hx hb d_MO_reckon_87 hl (by decide) rfl (fun ls hl => ?_)
                  refine lv_aload_n hx hb d_MO_reckon_89 rfl (lv_at hl 2 rfl) ?_
                  refine f_get (C := "DutyRulesModel") (T := T_MO) (N := 40) hx hb (fun w q => hT w (s_MO w q)) hown hK hI g_x rfl 11 (by decide) (hT _ w_820) (fun _ q => q) (mo_get (by decide) v_11) d_MO_reckon_90 ?_
                  refine lv_aload_n hx hb d_MO_reckon_93 rfl (lv_at hl 2 rfl) ?_
                  refine lv_iload_n hx hb d_MO_reckon_94 rfl (lv_at hl 3 rfl) ?_
                  refine lv_iconst (v := 1) hx hb d_MO_reckon_95 (by decide) ?_
                  refine lv_lload_n hx hb d_MO_reckon_96 rfl (lv_at hl 4 rfl) ?_
                  refine lv_lload hx hb d_MO_reckon_97 (lv_at hl 5 rfl) ?_
                  refine f_calli hI (f_runV C hI (c_MO_holds l G h_129 _ x nf lot 1 day on fl fk fd fw fv mf_128 g_x hFc (by omega) (by omega) (by omega) (by omega)) gm_MO_holds w_1028 p_MO_holds w_1026 g_x rfl rfl rfl hl.1 rfl (Nat.le_of_ble_eq_true rfl) ⟨Nat.le_of_ble_eq_true rfl, Nat.le_of_ble_eq_true rfl⟩ d_MO_reckon_99 ⟨Nat.le_of_ble_eq_true rfl, Nat.le_of_ble_eq_true rfl⟩) (fun r_134 h9 H9 locs hp9 hX9 hz9 hI => ?_)
                  obtain ⟨rfl, e9⟩ := hp9
                  rw [e9] at hI
                  clear hX9 e9
                  rw [e1, bI_k (by omega)]
                  refine f_laldn (k := i1) (v := (lN (fv i1))) hx hb hI g_a11 (fT.ofK hK (t0 := 1) rfl) (by omega) (by omega) rfl d_MO_reckon_102 ?_
                  refine lv_lstore (lv' := [(9, .long (lN (fv i1))), (7, .long (lN (fv i0))), (6, .int (nI e1)), (0, .ref x), (1, .int (nI lot)), (2, .long (lN day)), (4, .long (lN on))]) hx hb d_MO_reckon_103 hl (by decide) rfl (fun ls hl => ?_)
                  refine lv_aload_n hx hb d_MO_reckon_105 rfl (lv_at hl 3 rfl) ?_
                  refine f_get (C := "DutyRulesModel") (T := T_MO) (N := 40) hx hb (fun w q => hT w (s_MO w q)) hown hK hI g_x rfl 11 (by decide) (hT _ w_820) (fun _ q => q) (mo_get (by decide) v_11) d_MO_reckon_106 ?_
                  refine lv_aload_n hx hb d_MO_reckon_109 rfl (lv_at hl 3 rfl) ?_
                  refine lv_iload_n hx hb d_MO_reckon_110 rfl (lv_at hl 4 rfl) ?_
                  refine lv_iconst (v := 2) hx hb d_MO_reckon_111 (by decide) ?_
                  refine lv_lload_n hx hb d_MO_reckon_112 rfl (lv_at hl 5 rfl) ?_
                  refine lv_lload hx hb d_MO_reckon_113 (lv_at hl 6 rfl) ?_
                  refine f_calli hI (f_runV C hI (c_MO_holds l G h_129 _ x nf lot 2 day on fl fk fd fw fv mf_128 g_x hFc (by omega) (by omega) (by omega) (by omega)) gm_MO_holds w_1028 p_MO_holds w_1026 g_x rfl rfl rfl hl.1 rfl (Nat.le_of_ble_eq_true rfl) ⟨Nat.le_of_ble_eq_true rfl, Nat.le_of_ble_eq_true rfl⟩ d_MO_reckon_115 ⟨Nat.le_of_ble_eq_true rfl, Nat.le_of_ble_eq_true rfl⟩) (fun r_135 h9 H9 locs hp9 hX9 hz9 hI => ?_)
                  obtain ⟨rfl, e9⟩ := hp9
                  rw [e9] at hI
                  clear hX9 e9
                  rw [e2, bI_k (by omega)]
                  refine f_laldn (k := i2) (v := (lN (fv i2))) hx hb hI g_a11 (fT.ofK hK (t0 := 1) rfl) (by omega) (by omega) rfl d_MO_reckon_118 ?_
                  refine lv_lstore (lv' := [(11, .long (lN (fv i2))), (9, .long (lN (fv i1))), (7, .long (lN (fv i0))), (6, .int (nI e1)), (0, .ref x), (1, .int (nI lot)), (2, .long (lN day)), (4, .long (lN on))]) hx hb d_MO_reckon_119 hl (by decide) rfl (fun ls hl => ?_)
                  refine lv_aload_n hx hb d_MO_reckon_121 rfl (lv_at hl 4 rfl) ?_
                  refine lv_iload hx hb d_MO_reckon_122 (lv_at hl 3 rfl) ?_
                  refine lv_iconst (v := 0) hx hb d_MO_reckon_124 (by decide) ?_
                  refine lv_lload hx hb d_MO_reckon_125 (lv_at hl 2 rfl) ?_
                  refine lv_lload hx hb d_MO_reckon_127 (lv_at hl 1 rfl) ?_
                  refine f_calli hI (f_runV C hI (c_MO_find l G h_129 _ x e1 0 (fv i0) (fv i1) mf_128 g_x ne ef rr rm hEd (by omega) (by omega) (by omega) (by omega)) gm_MO_find w_1032 p_MO_find w_1030 g_x rfl rfl rfl hl.1 rfl (Nat.le_of_ble_eq_true rfl) ⟨Nat.le_of_ble_eq_true rfl, Nat.le_of_ble_eq_true rfl⟩ d_MO_reckon_129 ⟨Nat.le_of_ble_eq_true rfl, Nat.le_of_ble_eq_true rfl⟩) (fun r_136 h9 H9 locs hp9 hX9 hz9 hI => ?_)
                  obtain ⟨rfl, e9⟩ := hp9
                  rw [e9] at hI
                  clear hX9 e9
                  rw [eR]
                  refine lv_istore (lv' := [(13, .int (nI rate)), (11, .long (lN (fv i2))), (9, .long (lN (fv i1))), (7, .long (lN (fv i0))), (6, .int (nI e1)), (0, .ref x), (1, .int (nI lot)), (2, .long (lN day)), (4, .long (lN on))]) hx hb d_MO_reckon_132 hl (by decide) rfl (fun ls hl => ?_)
                  refine lv_aload_n hx hb d_MO_reckon_134 rfl (lv_at hl 5 rfl) ?_
                  refine lv_iload hx hb d_MO_reckon_135 (lv_at hl 4 rfl) ?_
                  refine lv_iconst (v := 1) hx hb d_MO_reckon_137 (by decide) ?_
                  refine lv_lload hx hb d_MO_reckon_138 (lv_at hl 3 rfl) ?_
                  refine lv_lconst (v := 0) hx hb d_MO_reckon_140 (by decide) ?_
                  refine f_calli hI (f_runV C hI (c_MO_find l G h_129 _ x e1 1 (fv i0) 0 mf_128 g_x ne ef rr rm hEd (by omega) (by omega) (by omega) (by omega)) gm_MO_find w_1032 p_MO_find w_1030 g_x rfl rfl rfl hl.1 rfl (Nat.le_of_ble_eq_true rfl) ⟨Nat.le_of_ble_eq_true rfl, Nat.le_of_ble_eq_true rfl⟩ d_MO_reckon_141 ⟨Nat.le_of_ble_eq_true rfl, Nat.le_of_ble_eq_true rfl⟩) (fun r_137 h9 H9 locs hp9 hX9 hz9 hI => ?_)
                  obtain ⟨rfl, e9⟩ := hp9
                  rw [e9] at hI
                  clear hX9 e9
                  rw [eS]
                  refine lv_istore (lv' := [(14, .int (nI r)), (13, .int (nI rate)), (11, .long (lN (fv i2))), (9, .long (lN (fv i1))), (7, .long (lN (fv i0))), (6, .int (nI e1)), (0, .ref x), (1, .int (nI lot)), (2, .long (lN day)), (4, .long (lN on))]) hx hb d_MO_reckon_144 hl (by decide) rfl (fun ls hl => ?_)
                  refine lv_aload_n hx hb d_MO_reckon_146 rfl (lv_at hl 6 rfl) ?_
                  refine lv_iload_n hx hb d_MO_reckon_147 rfl (lv_at hl 7 rfl) ?_
                  refine lv_iconst (v := 3) hx hb d_MO_reckon_148 (by decide) ?_
                  refine lv_lload_n hx hb d_MO_reckon_149 rfl (lv_at hl 8 rfl) ?_
                  refine lv_lload hx hb d_MO_reckon_150 (lv_at hl 9 rfl) ?_
                  refine f_calli hI (f_runV C hI (c_MO_holds l G h_129 _ x nf lot 3 day on fl fk fd fw fv mf_128 g_x hFc (by omega) (by omega) (by omega) (by omega)) gm_MO_holds w_1028 p_MO_holds w_1026 g_x rfl rfl rfl hl.1 rfl (Nat.le_of_ble_eq_true rfl) ⟨Nat.le_of_ble_eq_true rfl, Nat.le_of_ble_eq_true rfl⟩ d_MO_reckon_152 ⟨Nat.le_of_ble_eq_true rfl, Nat.le_of_ble_eq_true rfl⟩) (fun r_138 h9 H9 locs hp9 hX9 hz9 hI => ?_)
                  obtain ⟨rfl, e9⟩ := hp9
                  rw [e9] at hI
                  clear hX9 e9
                  rw [e3, bI_0]
                  refine lv_istore (lv' := [(15, .int (-1)), (14, .int (nI r)), (13, .int (nI rate)), (11, .long (lN (fv i2))), (9, .long (lN (fv i1))), (7, .long (lN (fv i0))), (6, .int (nI e1)), (0, .ref x), (1, .int (nI lot)), (2, .long (lN day)), (4, .long (lN on))]) hx hb d_MO_reckon_155 hl (by decide) rfl (fun ls hl => ?_)
                  refine lv_aload_n hx hb d_MO_reckon_157 rfl (lv_at hl 7 rfl) ?_
                  refine lv_iload hx hb d_MO_reckon_158 (lv_at hl 2 rfl) ?_
                  refine lv_iconst (v := (-1)) hx hb d_MO_reckon_160 (by decide) ?_
                  refine lv_icmp_ne (tgt := 169) hx hb d_MO_reckon_161 (by decide) (fun c_139 => ?_) (fun c_139 => absurd c_139 (n_m1 (by omega)))
                  refine lv_iconst (v := 3) hx hb d_MO_reckon_169 (by decide) ?_
                  refine f_put (C := "DutyRulesModel") (T := T_MO) (N := 40) (fs' := mo (va_up mf_128 14 (.int 3))) (v := .int 3) hx hb (fun w q => hT w (s_MO w q)) t_MO k_MO n_MO hown hK hI g_x (by decide) rfl 14 (by decide) (hT _ w_823) (fun _ q => q) rfl rfl rfl (by rw [mo_len]; decide) (mo_set _) d_MO_reckon_170 (fun H locs hI => ?_)
                  generalize emf_140 : va_up mf_128 14 (.int 3) = mf_140 at hI
                  have v_11 : mf_140 11 = .ref a11 := by rw [← emf_140, va_up_ne _ _ (by decide)]; exact v_11
                  have v_15 : mf_140 15 = .ref a15 := by rw [← emf_140, va_up_ne _ _ (by decide)]; exact v_15
                  have v_16 : mf_140 16 = .ref a16 := by rw [← emf_140, va_up_ne _ _ (by decide)]; exact v_16
                  have v_17 : mf_140 17 = .ref a17 := by rw [← emf_140, va_up_ne _ _ (by decide)]; exact v_17
                  have v_18 : mf_140 18 = .int 0 := by rw [← emf_140, va_up_ne _ _ (by decide)]; exact v_18
                  have v_19 : mf_140 19 = .long 0 := by rw [← emf_140, va_up_ne _ _ (by decide)]; exact v_19
                  have v_20 : mf_140 20 = .long 0 := by rw [← emf_140, va_up_ne _ _ (by decide)]; exact v_20
                  have v_14 : mf_140 14 = .int 3 := by rw [← emf_140, va_up_self]
                  generalize eh_141 : fU h_129 x (40, 0, .inr (8, mo mf_140)) = h_141 at hI
                  have hX := hX.set (e := .inr (8, mo mf_140)) g_x (by decide); rw [eh_141] at hX
                  have hF := hF.set (e := .inr (8, mo mf_140)) g_x (by decide); rw [eh_141] at hF
                  have g_a15 : h_141 a15 = some (56, 0, .inl ((G.2.1 0), 5, .inl (fun i => nI (sl i)))) := by rw [← eh_141]; exact fU_keep g_a15 (f_neR g_a15 g_x (by decide))
                  have g_a16 : h_141 a16 = some (57, 0, .inl ((G.2.1 0), 5, .inl (fun i => nI (sr i)))) := by rw [← eh_141]; exact fU_keep g_a16 (f_neR g_a16 g_x (by decide))
                  have g_a17 : h_141 a17 = some (58, 0, .inl ((G.2.1 1), 5, .inr (.inl (fun i => lN (sc i))))) := by rw [← eh_141]; exact fU_keep g_a17 (f_neR g_a17 g_x (by decide))
                  have g_a11 : h_141 a11 = some (52, 0, .inl ((G.2.1 1), 300, .inr (.inl (fun i => lN (fv i))))) := by rw [← eh_141]; exact fU_keep g_a11 (f_neR g_a11 g_x (by decide))
                  have hW9 : fF (inR [40]) h_129 h_141 := by rw [← eh_141]; exact fF.rf.set g_x (by decide)
                  have g_x : h_141 x = some (40, 0, .inr (8, mo mf_140)) := by rw [← eh_141]; exact fU_self _ _ _
                  have hFc := mFc.keep (mf' := mf_140) hFc (fun j _ _ => by rw [← emf_140]; exact va_up_ne _ _ (by omega)) hW9 (by decide)
                  have hEd := mEd.keep (mf' := mf_140) hEd (fun j _ _ => by rw [← emf_140]; exact va_up_ne _ _ (by omega)) hW9 (by decide)
                  have hm1 : ∀ j, j < 14 ∨ 20 < j → mf_140 j = mf j := fun j hj => by rw [← emf_140, va_up_ne _ _ (by omega)]; exact hm1 j hj
                  refine lv_iload hx hb d_MO_reckon_173 (lv_at hl 2 rfl) ?_
                  refine lv_iconst (v := (-1)) hx hb d_MO_reckon_175 (by decide) ?_
                  refine lv_icmp_eq (tgt := 191) hx hb d_MO_reckon_176 (by decide) (fun c_142 => absurd c_142 (n_m1 (by omega))) (fun c_142 => ?_)
                  refine lv_iload hx hb d_MO_reckon_179 (lv_at hl 1 rfl) ?_
                  refine lv_iconst (v := (-1)) hx hb d_MO_reckon_181 (by decide) ?_
                  refine lv_icmp_eq (tgt := 193) hx hb d_MO_reckon_182 (by decide) (fun c_143 => absurd c_143 (n_m1 (by omega))) (fun c_143 => ?_)
                  refine lv_iload hx hb d_MO_reckon_185 (lv_at hl 0 rfl) ?_
                  refine lv_iconst (v := (-1)) hx hb d_MO_reckon_187 (by decide) ?_
                  refine lv_icmp_ne (tgt := 193) hx hb d_MO_reckon_188 (by decide) (fun c_144 => absurd rfl c_144) (fun c_144 => ?_)
                  refine lv_iconst (v := 0) hx hb d_MO_reckon_191 (by decide) ?_
                  exact f_zret C hr rfl hI ⟨by rw [hrk]; rfl, mf_140, g_x, hm1, by rw [hrk]; exact ⟨sl, sr, sc, ⟨a15, a16, a17, ⟨v_14, v_15, v_16, v_17, v_18, v_19, v_20⟩, ⟨g_a15, g_a16, g_a17⟩⟩, fun i q hi => by simp [d0] at hi⟩, hF⟩ hX (Nat.le_refl _) (Nat.le_refl _) d_MO_reckon_192
                · have h4 := h3.2; rw [show (mK nf fl fk fd fw fv lot day on) 3 = some (fv i3) by show kv fv (hk fl fk fd fw lot 3 day on nf) = _; rw [e3]; exact kv_k (by omega)] at h4; cases h4
            · have hrk : rk (mK nf fl fk fd fw fv lot day on) (mE ne ef rr rm day) = (-1, rkS (mK nf fl fk fd fw fv lot day on) (mF rr rm e1) (mV rr e1) (fv i0) (fv i2) rate) := by rw [hed]; show rkE _ _ _ = _; unfold rkE; simp only [hK0, hK1, hK2]; rw [show mF rr rm e1 0 (fv i0) (fv i1) = some rate from eR]; exact if_neg h3
              have hlp : fv i2 * rr ((e1 * 40 + rate) * 5 + 4) ≤ 1000000 * 1000000 := mulle hg2 hrt.2.2
              rcases eS : ff (fp rr e1 1 (fv i0) 0) 0 (rm e1) with _ | r
              · skip
                refine lv_aload_n hx hb d_MO_reckon_0 rfl (lv_at hl 0 rfl) ?_
                refine lv_iconst (v := 0) hx hb d_MO_reckon_1 (by decide) ?_
                refine f_put (C := "DutyRulesModel") (T := T_MO) (N := 40) (fs' := mo (va_up mf 18 (.int 0))) (v := .int 0) hx hb (fun w q => hT w (s_MO w q)) t_MO k_MO n_MO hown hK hI g_x (by decide) rfl 18 (by decide) (hT _ w_827) (fun _ q => q) rfl rfl rfl (by rw [mo_len]; decide) (mo_set _) d_MO_reckon_2 (fun H locs hI => ?_)
                generalize emf_145 : va_up mf 18 (.int 0) = mf_145 at hI
                have v_11 : mf_145 11 = .ref a11 := by rw [← emf_145, va_up_ne _ _ (by decide)]; exact v_11
                have v_14 : mf_145 14 = .int rs := by rw [← emf_145, va_up_ne _ _ (by decide)]; exact v_14
                have v_15 : mf_145 15 = .ref a15 := by rw [← emf_145, va_up_ne _ _ (by decide)]; exact v_15
                have v_16 : mf_145 16 = .ref a16 := by rw [← emf_145, va_up_ne _ _ (by decide)]; exact v_16
                have v_17 : mf_145 17 = .ref a17 := by rw [← emf_145, va_up_ne _ _ (by decide)]; exact v_17
                have v_19 : mf_145 19 = .long (lN fr) := by rw [← emf_145, va_up_ne _ _ (by decide)]; exact v_19
                have v_20 : mf_145 20 = .long (lN ce) := by rw [← emf_145, va_up_ne _ _ (by decide)]; exact v_20
                have v_18 : mf_145 18 = .int 0 := by rw [← emf_145, va_up_self]
                generalize eh_146 : fU h x (40, 0, .inr (8, mo mf_145)) = h_146 at hI
                have hX := hX.set (e := .inr (8, mo mf_145)) g_x (by decide); rw [eh_146] at hX
                have hF := hF.set (e := .inr (8, mo mf_145)) g_x (by decide); rw [eh_146] at hF
                have g_a15 : h_146 a15 = some (56, 0, .inl ((G.2.1 0), 5, .inl (fun i => nI (sl i)))) := by rw [← eh_146]; exact fU_keep g_a15 (f_neR g_a15 g_x (by decide))
                have g_a16 : h_146 a16 = some (57, 0, .inl ((G.2.1 0), 5, .inl (fun i => nI (sr i)))) := by rw [← eh_146]; exact fU_keep g_a16 (f_neR g_a16 g_x (by decide))
                have g_a17 : h_146 a17 = some (58, 0, .inl ((G.2.1 1), 5, .inr (.inl (fun i => lN (sc i))))) := by rw [← eh_146]; exact fU_keep g_a17 (f_neR g_a17 g_x (by decide))
                have g_a11 : h_146 a11 = some (52, 0, .inl ((G.2.1 1), 300, .inr (.inl (fun i => lN (fv i))))) := by rw [← eh_146]; exact fU_keep g_a11 (f_neR g_a11 g_x (by decide))
                have hW9 : fF (inR [40]) h h_146 := by rw [← eh_146]; exact fF.rf.set g_x (by decide)
                have g_x : h_146 x = some (40, 0, .inr (8, mo mf_145)) := by rw [← eh_146]; exact fU_self _ _ _
                have hFc := mFc.keep (mf' := mf_145) hFc (fun j _ _ => by rw [← emf_145]; exact va_up_ne _ _ (by omega)) hW9 (by decide)
                have hEd := mEd.keep (mf' := mf_145) hEd (fun j _ _ => by rw [← emf_145]; exact va_up_ne _ _ (by omega)) hW9 (by decide)
                have hm1 : ∀ j, j < 14 ∨ 20 < j → mf_145 j = mf j := fun j hj => by rw [← emf_145, va_up_ne _ _ (by omega)]; exact hm1 j hj
                refine lv_aload_n hx hb d_MO_reckon_5 rfl (lv_at hl 0 rfl) ?_
                refine lv_lconst (v := 0) hx hb d_MO_reckon_6 (by decide) ?_
                refine f_put (C := "DutyRulesModel") (T := T_MO) (N := 40) (fs' := mo (va_up mf_145 19 (.long 0))) (v := .long 0) hx hb (fun w q => hT w (s_MO w q)) t_MO k_MO n_MO hown hK hI g_x (by decide) rfl 19 (by decide) (hT _ w_828) (fun _ q => q) rfl rfl rfl (by rw [mo_len]; decide) (mo_set _) d_MO_reckon_7 (fun H locs hI => ?_)
                generalize emf_147 : va_up mf_145 19 (.long 0) = mf_147 at hI
                have v_11 : mf_147 11 = .ref a11 := by rw [← emf_147, va_up_ne _ _ (by decide)]; exact v_11
                have v_14 : mf_147 14 = .int rs := by rw [← emf_147, va_up_ne _ _ (by decide)]; exact v_14
                have v_15 : mf_147 15 = .ref a15 := by rw [← emf_147, va_up_ne _ _ (by decide)]; exact v_15
                have v_16 : mf_147 16 = .ref a16 := by rw [← emf_147, va_up_ne _ _ (by decide)]; exact v_16
                have v_17 : mf_147 17 = .ref a17 := by rw [← emf_147, va_up_ne _ _ (by decide)]; exact v_17
                have v_18 : mf_147 18 = .int 0 := by rw [← emf_147, va_up_ne _ _ (by decide)]; exact v_18
                have v_20 : mf_147 20 = .long (lN ce) := by rw [← emf_147, va_up_ne _ _ (by decide)]; exact v_20
                have v_19 : mf_147 19 = .long 0 := by rw [← emf_147, va_up_self]
                generalize eh_148 : fU h_146 x (40, 0, .inr (8, mo mf_147)) = h_148 at hI
                have hX := hX.set (e := .inr (8, mo mf_147)) g_x (by decide); rw [eh_148] at hX
                have hF := hF.set (e := .inr (8, mo mf_147)) g_x (by decide); rw [eh_148] at hF
                have g_a15 : h_148 a15 = some (56, 0, .inl ((G.2.1 0), 5, .inl (fun i => nI (sl i)))) := by rw [← eh_148]; exact fU_keep g_a15 (f_neR g_a15 g_x (by decide))
                have g_a16 : h_148 a16 = some (57, 0, .inl ((G.2.1 0), 5, .inl (fun i => nI (sr i)))) := by rw [← eh_148]; exact fU_keep g_a16 (f_neR g_a16 g_x (by decide))
                have g_a17 : h_148 a17 = some (58, 0, .inl ((G.2.1 1), 5, .inr (.inl (fun i => lN (sc i))))) := by rw [← eh_148]; exact fU_keep g_a17 (f_neR g_a17 g_x (by decide))
                have g_a11 : h_148 a11 = some (52, 0, .inl ((G.2.1 1), 300, .inr (.inl (fun i => lN (fv i))))) := by rw [← eh_148]; exact fU_keep g_a11 (f_neR g_a11 g_x (by decide))
                have hW9 : fF (inR [40]) h_146 h_148 := by rw [← eh_148]; exact fF.rf.set g_x (by decide)
                have g_x : h_148 x = some (40, 0, .inr (8, mo mf_147)) := by rw [← eh_148]; exact fU_self _ _ _
                have hFc := mFc.keep (mf' := mf_147) hFc (fun j _ _ => by rw [← emf_147]; exact va_up_ne _ _ (by omega)) hW9 (by decide)
                have hEd := mEd.keep (mf' := mf_147) hEd (fun j _ _ => by rw [← emf_147]; exact va_up_ne _ _ (by omega)) hW9 (by decide)
                have hm1 : ∀ j, j < 14 ∨ 20 < j → mf_147 j = mf j := fun j hj => by rw [← emf_147, va_up_ne _ _ (by omega)]; exact hm1 j hj
                refine lv_aload_n hx hb d_MO_reckon_10 rfl (lv_at hl 0 rfl) ?_
                refine lv_lconst (v := 0) hx hb d_MO_reckon_11 (by decide) ?_
                refine f_put (C := "DutyRulesModel") (T := T_MO) (N := 40) (fs' := mo (va_up mf_147 20 (.long 0))) (v := .long 0) hx hb (fun w q => hT w (s_MO w q)) t_MO k_MO n_MO hown hK hI g_x (by decide) rfl 20 (by decide) (hT _ w_829) (fun _ q => q) rfl rfl rfl (by rw [mo_len]; decide) (mo_set _) d_MO_reckon_12 (fun H locs hI => ?_)
                generalize emf_149 : va_up mf_147 20 (.long 0) = mf_149 at hI
                have v_11 : mf_149 11 = .ref a11 := by rw [← emf_149, va_up_ne _ _ (by decide)]; exact v_11
                have v_14 : mf_149 14 = .int rs := by rw [← emf_149, va_up_ne _ _ (by decide)]; exact v_14
                have v_15 : mf_149 15 = .ref a15 := by rw [← emf_149, va_up_ne _ _ (by decide)]; exact v_15
                have v_16 : mf_149 16 = .ref a16 := by rw [← emf_149, va_up_ne _ _ (by decide)]; exact v_16
                have v_17 : mf_149 17 = .ref a17 := by rw [← emf_149, va_up_ne _ _ (by decide)]; exact v_17
                have v_18 : mf_149 18 = .int 0 := by rw [← emf_149, va_up_ne _ _ (by decide)]; exact v_18
                have v_19 : mf_149 19 = .long 0 := by rw [← emf_149, va_up_ne _ _ (by decide)]; exact v_19
                have v_20 : mf_149 20 = .long 0 := by rw [← emf_149, va_up_self]
                generalize eh_150 : fU h_148 x (40, 0, .inr (8, mo mf_149)) = h_150 at hI
                have hX := hX.set (e := .inr (8, mo mf_149)) g_x (by decide); rw [eh_150] at hX
                have hF := hF.set (e := .inr (8, mo mf_149)) g_x (by decide); rw [eh_150] at hF
                have g_a15 : h_150 a15 = some (56, 0, .inl ((G.2.1 0), 5, .inl (fun i => nI (sl i)))) := by rw [← eh_150]; exact fU_keep g_a15 (f_neR g_a15 g_x (by decide))
                have g_a16 : h_150 a16 = some (57, 0, .inl ((G.2.1 0), 5, .inl (fun i => nI (sr i)))) := by rw [← eh_150]; exact fU_keep g_a16 (f_neR g_a16 g_x (by decide))
                have g_a17 : h_150 a17 = some (58, 0, .inl ((G.2.1 1), 5, .inr (.inl (fun i => lN (sc i))))) := by rw [← eh_150]; exact fU_keep g_a17 (f_neR g_a17 g_x (by decide))
                have g_a11 : h_150 a11 = some (52, 0, .inl ((G.2.1 1), 300, .inr (.inl (fun i => lN (fv i))))) := by rw [← eh_150]; exact fU_keep g_a11 (f_neR g_a11 g_x (by decide))
                have hW9 : fF (inR [40]) h_148 h_150 := by rw [← eh_150]; exact fF.rf.set g_x (by decide)
                have g_x : h_150 x = some (40, 0, .inr (8, mo mf_149)) := by rw [← eh_150]; exact fU_self _ _ _
                have hFc := mFc.keep (mf' := mf_149) hFc (fun j _ _ => by rw [← emf_149]; exact va_up_ne _ _ (by omega)) hW9 (by decide)
                have hEd := mEd.keep (mf' := mf_149) hEd (fun j _ _ => by rw [← emf_149]; exact va_up_ne _ _ (by omega)) hW9 (by decide)
                have hm1 : ∀ j, j < 14 ∨ 20 < j → mf_149 j = mf j := fun j hj => by rw [← emf_149, va_up_ne _ _ (by omega)]; exact hm1 j hj
                refine lv_aload_n hx hb d_MO_reckon_15 rfl (lv_at hl 0 rfl) ?_
                refine lv_lload_n hx hb d_MO_reckon_16 rfl (lv_at hl 2 rfl) ?_
                refine f_calli hI (f_runV C hI (c_MO_editionOf l G h_150 _ x day mf_149 g_x ne ef rr rm hEd (by omega)) gm_MO_editionOf w_1024 p_MO_editionOf w_1022 g_x rfl rfl rfl hl.1 rfl (Nat.le_of_ble_eq_true rfl) ⟨Nat.le_of_ble_eq_true rfl, Nat.le_of_ble_eq_true rfl⟩ d_MO_reckon_17 ⟨Nat.le_of_ble_eq_true rfl, Nat.le_of_ble_eq_true rfl⟩) (fun r_151 h9 H9 locs hp9 hX9 hz9 hI => ?_)
                obtain ⟨rfl, e9⟩ := hp9
                rw [e9] at hI
                clear hX9 e9
                rw [en]
                refine lv_istore (lv' := [(6, .int (nI e1)), (0, .ref x), (1, .int (nI lot)), (2, .long (lN day)), (4, .long (lN on))]) hx hb d_MO_reckon_20 hl (by decide) rfl (fun ls hl => ?_)
                refine lv_aload_n hx hb d_MO_reckon_22 rfl (lv_at hl 1 rfl) ?_
                refine lv_bipush (v := 20) hx hb d_MO_reckon_23 (by decide) ?_
                refine f_put (C := "DutyRulesModel") (T := T_MO) (N := 40) (fs' := mo (va_up mf_149 14 (.int 20))) (v := .int 20) hx hb (fun w q => hT w (s_MO w q)) t_MO k_MO n_MO hown hK hI g_x (by decide) rfl 14 (by decide) (hT _ w_823) (fun _ q => q) rfl rfl rfl (by rw [mo_len]; decide) (mo_set _) d_MO_reckon_25 (fun H locs hI => ?_)
                generalize emf_152 : va_up mf_149 14 (.int 20) = mf_152 at hI
                have v_11 : mf_152 11 = .ref a11 := by rw [← emf_152, va_up_ne _ _ (by decide)]; exact v_11
                have v_15 : mf_152 15 = .ref a15 := by rw [← emf_152, va_up_ne _ _ (by decide)]; exact v_15
                have v_16 : mf_152 16 = .ref a16 := by rw [← emf_152, va_up_ne _ _ (by decide)]; exact v_16
                have v_17 : mf_152 17 = .ref a17 := by rw [← emf_152, va_up_ne _ _ (by decide)]; exact v_17
                have v_18 : mf_152 18 = .int 0 := by rw [← emf_152, va_up_ne _ _ (by decide)]; exact v_18
                have v_19 : mf_152 19 = .long 0 := by rw [← emf_152, va_up_ne _ _ (by decide)]; exact v_19
                have v_20 : mf_152 20 = .long 0 := by rw [← emf_152, va_up_ne _ _ (by decide)]; exact v_20
                have v_14 : mf_152 14 = .int 20 := by rw [← emf_152, va_up_self]
                generalize eh_153 : fU h_150 x (40, 0, .inr (8, mo mf_152)) = h_153 at hI
                have hX := hX.set (e := .inr (8, mo mf_152)) g_x (by decide); rw [eh_153] at hX
                have hF := hF.set (e := .inr (8, mo mf_152)) g_x (by decide); rw [eh_153] at hF
                have g_a15 : h_153 a15 = some (56, 0, .inl ((G.2.1 0), 5, .inl (fun i => nI (sl i)))) := by rw [← eh_153]; exact fU_keep g_a15 (f_neR g_a15 g_x (by decide))
                have g_a16 : h_153 a16 = some (57, 0, .inl ((G.2.1 0), 5, .inl (fun i => nI (sr i)))) := by rw [← eh_153]; exact fU_keep g_a16 (f_neR g_a16 g_x (by decide))
                have g_a17 : h_153 a17 = some (58, 0, .inl ((G.2.1 1), 5, .inr (.inl (fun i => lN (sc i))))) := by rw [← eh_153]; exact fU_keep g_a17 (f_neR g_a17 g_x (by decide))
                have g_a11 : h_153 a11 = some (52, 0, .inl ((G.2.1 1), 300, .inr (.inl (fun i => lN (fv i))))) := by rw [← eh_153]; exact fU_keep g_a11 (f_neR g_a11 g_x (by decide))
                have hW9 : fF (inR [40]) h_150 h_153 := by rw [← eh_153]; exact fF.rf.set g_x (by decide)
                have g_x : h_153 x = some (40, 0, .inr (8, mo mf_152)) := by rw [← eh_153]; exact fU_self _ _ _
                have hFc := mFc.keep (mf' := mf_152) hFc (fun j _ _ => by rw [← emf_152]; exact va_up_ne _ _ (by omega)) hW9 (by decide)
                have hEd := mEd.keep (mf' := mf_152) hEd (fun j _ _ => by rw [← emf_152]; exact va_up_ne _ _ (by omega)) hW9 (by decide)
                have hm1 : ∀ j, j < 14 ∨ 20 < j → mf_152 j = mf j := fun j hj => by rw [← emf_152, va_up_ne _ _ (by omega)]; exact hm1 j hj
                refine lv_iload hx hb d_MO_reckon_28 (lv_at hl 0 rfl) ?_
                refine lv_iconst (v := (-1)) hx hb d_MO_reckon_30 (by decide) ?_
                refine lv_icmp_ne (tgt := 36) hx hb d_MO_reckon_31 (by decide) (fun c_154 => ?_) (fun c_154 => absurd c_154 (n_m1 (by omega)))
                refine lv_iconst (v := 0) hx hb d_MO_reckon_36 (by decide) ?_
                refine lv_istore (lv' := [(7, .int 0), (6, .int (nI e1)), (0, .ref x), (1, .int (nI lot)), (2, .long (lN day)), (4, .long (lN on))]) hx hb d_MO_reckon_37 hl (by decide) rfl (fun ls hl => ?_)
                refine lv_iload hx hb d_MO_reckon_39 (lv_at hl 0 rfl) ?_
                refine lv_iconst (v := 3) hx hb d_MO_reckon_41 (by decide) ?_
                refine lv_icmp_ge (tgt := 73) hx hb d_MO_reckon_42 (by decide) (fun c_155 => absurd c_155 (by decide)) (fun c_155 => ?_)
                refine lv_aload_n hx hb d_MO_reckon_45 rfl (lv_at hl 2 rfl) ?_
                refine lv_iload hx hb d_MO_reckon_46 (lv_at hl 0 rfl) ?_
                refine f_put (C := "DutyRulesModel") (T := T_MO) (N := 40) (fs' := mo (va_up mf_152 14 (.int 0))) (v := .int 0) hx hb (fun w q => hT w (s_MO w q)) t_MO k_MO n_MO hown hK hI g_x (by decide) rfl 14 (by decide) (hT _ w_823) (fun _ q => q) rfl rfl rfl (by rw [mo_len]; decide) (mo_set _) d_MO_reckon_48 (fun H locs hI => ?_)
                generalize emf_156 : va_up mf_152 14 (.int 0) = mf_156 at hI
                have v_11 : mf_156 11 = .ref a11 := by rw [← emf_156, va_up_ne _ _ (by decide)]; exact v_11
                have v_15 : mf_156 15 = .ref a15 := by rw [← emf_156, va_up_ne _ _ (by decide)]; exact v_15
                have v_16 : mf_156 16 = .ref a16 := by rw [← emf_156, va_up_ne _ _ (by decide)]; exact v_16
                have v_17 : mf_156 17 = .ref a17 := by rw [← emf_156, va_up_ne _ _ (by decide)]; exact v_17
                have v_18 : mf_156 18 = .int 0 := by rw [← emf_156, va_up_ne _ _ (by decide)]; exact v_18
                have v_19 : mf_156 19 = .long 0 := by rw [← emf_156, va_up_ne _ _ (by decide)]; exact v_19
                have v_20 : mf_156 20 = .long 0 := by rw [← emf_156, va_up_ne _ _ (by decide)]; exact v_20
                have v_14 : mf_156 14 = .int 0 := by rw [← emf_156, va_up_self]
                generalize eh_157 : fU h_153 x (40, 0, .inr (8, mo mf_156)) = h_157 at hI
                have hX := hX.set (e := .inr (8, mo mf_156)) g_x (by decide); rw [eh_157] at hX
                have hF := hF.set (e := .inr (8, mo mf_156)) g_x (by decide); rw [eh_157] at hF
                have g_a15 : h_157 a15 = some (56, 0, .inl ((G.2.1 0), 5, .inl (fun i => nI (sl i)))) := by rw [← eh_157]; exact fU_keep g_a15 (f_neR g_a15 g_x (by decide))
                have g_a16 : h_157 a16 = some (57, 0, .inl ((G.2.1 0), 5, .inl (fun i => nI (sr i)))) := by rw [← eh_157]; exact fU_keep g_a16 (f_neR g_a16 g_x (by decide))
                have g_a17 : h_157 a17 = some (58, 0, .inl ((G.2.1 1), 5, .inr (.inl (fun i => lN (sc i))))) := by rw [← eh_157]; exact fU_keep g_a17 (f_neR g_a17 g_x (by decide))
                have g_a11 : h_157 a11 = some (52, 0, .inl ((G.2.1 1), 300, .inr (.inl (fun i => lN (fv i))))) := by rw [← eh_157]; exact fU_keep g_a11 (f_neR g_a11 g_x (by decide))
                have hW9 : fF (inR [40]) h_153 h_157 := by rw [← eh_157]; exact fF.rf.set g_x (by decide)
                have g_x : h_157 x = some (40, 0, .inr (8, mo mf_156)) := by rw [← eh_157]; exact fU_self _ _ _
                have hFc := mFc.keep (mf' := mf_156) hFc (fun j _ _ => by rw [← emf_156]; exact va_up_ne _ _ (by omega)) hW9 (by decide)
                have hEd := mEd.keep (mf' := mf_156) hEd (fun j _ _ => by rw [← emf_156]; exact va_up_ne _ _ (by omega)) hW9 (by decide)
                have hm1 : ∀ j, j < 14 ∨ 20 < j → mf_156 j = mf j := fun j hj => by rw [← emf_156, va_up_ne _ _ (by omega)]; exact hm1 j hj
                refine lv_aload_n hx hb d_MO_reckon_51 rfl (lv_at hl 2 rfl) ?_
                refine lv_iload_n hx hb d_MO_reckon_52 rfl (lv_at hl 3 rfl) ?_
                refine lv_iload hx hb d_MO_reckon_53 (lv_at hl 0 rfl) ?_
                refine lv_lload_n hx hb d_MO_reckon_55 rfl (lv_at hl 4 rfl) ?_
                refine lv_lload hx hb d_MO_reckon_56 (lv_at hl 5 rfl) ?_
                refine f_calli hI (f_runV C hI (c_MO_holds l G h_157 _ x nf lot 0 day on fl fk fd fw fv mf_156 g_x hFc (by omega) (by omega) (by omega) (by omega)) gm_MO_holds w_1028 p_MO_holds w_1026 g_x rfl rfl rfl hl.1 rfl (Nat.le_of_ble_eq_true rfl) ⟨Nat.le_of_ble_eq_true rfl, Nat.le_of_ble_eq_true rfl⟩ d_MO_reckon_58 ⟨Nat.le_of_ble_eq_true rfl, Nat.le_of_ble_eq_true rfl⟩) (fun r_158 h9 H9 locs hp9 hX9 hz9 hI => ?_)
                obtain ⟨rfl, e9⟩ := hp9
                rw [e9] at hI
                clear hX9 e9
                rw [e0, bI_k (by omega)]
                refine lv_iconst (v := (-1)) hx hb d_MO_reckon_61 (by decide) ?_
                refine lv_icmp_ne (tgt := 67) hx hb d_MO_reckon_62 (by decide) (fun c_159 => ?_) (fun c_159 => absurd c_159 (n_m1 (by omega)))
                refine lv_iinc (v := 1) (lv' := [(7, .int 1), (6, .int (nI e1)), (0, .ref x), (1, .int (nI lot)), (2, .long (lN day)), (4, .long (lN on))]) hx hb d_MO_reckon_67 hl (k := 0) rfl (by decide) (by decide) rfl (fun ls hl => ?_)
                refine lv_goto (tgt := 39) hx hb d_MO_reckon_70 (by decide) ?_
                refine lv_iload hx hb d_MO_reckon_39 (lv_at hl 0 rfl) ?_
                refine lv_iconst (v := 3) hx hb d_MO_reckon_41 (by decide) ?_
                refine lv_icmp_ge (tgt := 73) hx hb d_MO_reckon_42 (by decide) (fun c_160 => absurd c_160 (by decide)) (fun c_160 => ?_)
                refine lv_aload_n hx hb d_MO_reckon_45 rfl (lv_at hl 2 rfl) ?_
                refine lv_iload hx hb d_MO_reckon_46 (lv_at hl 0 rfl) ?_
                refine f_put (C := "DutyRulesModel") (T := T_MO) (N := 40) (fs' := mo (va_up mf_156 14 (.int 1))) (v := .int 1) hx hb (fun w q => hT w (s_MO w q)) t_MO k_MO n_MO hown hK hI g_x (by decide) rfl 14 (by decide) (hT _ w_823) (fun _ q => q) rfl rfl rfl (by rw [mo_len]; decide) (mo_set _) d_MO_reckon_48 (fun H locs hI => ?_)
                generalize emf_161 : va_up mf_156 14 (.int 1) = mf_161 at hI
                have v_11 : mf_161 11 = .ref a11 := by rw [← emf_161, va_up_ne _ _ (by decide)]; exact v_11
                have v_15 : mf_161 15 = .ref a15 := by rw [← emf_161, va_up_ne _ _ (by decide)]; exact v_15
                have v_16 : mf_161 16 = .ref a16 := by rw [← emf_161, va_up_ne _ _ (by decide)]; exact v_16
                have v_17 : mf_161 17 = .ref a17 := by rw [← emf_161, va_up_ne _ _ (by decide)]; exact v_17
                have v_18 : mf_161 18 = .int 0 := by rw [← emf_161, va_up_ne _ _ (by decide)]; exact v_18
                have v_19 : mf_161 19 = .long 0 := by rw [← emf_161, va_up_ne _ _ (by decide)]; exact v_19
                have v_20 : mf_161 20 = .long 0 := by rw [← emf_161, va_up_ne _ _ (by decide)]; exact v_20
                have v_14 : mf_161 14 = .int 1 := by rw [← emf_161, va_up_self]
                generalize eh_162 : fU h_157 x (40, 0, .inr (8, mo mf_161)) = h_162 at hI
                have hX := hX.set (e := .inr (8, mo mf_161)) g_x (by decide); rw [eh_162] at hX
                have hF := hF.set (e := .inr (8, mo mf_161)) g_x (by decide); rw [eh_162] at hF
                have g_a15 : h_162 a15 = some (56, 0, .inl ((G.2.1 0), 5, .inl (fun i => nI (sl i)))) := by rw [← eh_162]; exact fU_keep g_a15 (f_neR g_a15 g_x (by decide))
                have g_a16 : h_162 a16 = some (57, 0, .inl ((G.2.1 0), 5, .inl (fun i => nI (sr i)))) := by rw [← eh_162]; exact fU_keep g_a16 (f_neR g_a16 g_x (by decide))
                have g_a17 : h_162 a17 = some (58, 0, .inl ((G.2.1 1), 5, .inr (.inl (fun i => lN (sc i))))) := by rw [← eh_162]; exact fU_keep g_a17 (f_neR g_a17 g_x (by decide))
                have g_a11 : h_162 a11 = some (52, 0, .inl ((G.2.1 1), 300, .inr (.inl (fun i => lN (fv i))))) := by rw [← eh_162]; exact fU_keep g_a11 (f_neR g_a11 g_x (by decide))
                have hW9 : fF (inR [40]) h_157 h_162 := by rw [← eh_162]; exact fF.rf.set g_x (by decide)
                have g_x : h_162 x = some (40, 0, .inr (8, mo mf_161)) := by rw [← eh_162]; exact fU_self _ _ _
                have hFc := mFc.keep (mf' := mf_161) hFc (fun j _ _ => by rw [← emf_161]; exact va_up_ne _ _ (by omega)) hW9 (by decide)
                have hEd := mEd.keep (mf' := mf_161) hEd (fun j _ _ => by rw [← emf_161]; exact va_up_ne _ _ (by omega)) hW9 (by decide)
                have hm1 : ∀ j, j < 14 ∨ 20 < j → mf_161 j = mf j := fun j hj => by rw [← emf_161, va_up_ne _ _ (by omega)]; exact hm1 j hj
                refine lv_aload_n hx hb d_MO_reckon_51 rfl (lv_at hl 2 rfl) ?_
                refine lv_iload_n hx hb d_MO_reckon_52 rfl (lv_at hl 3 rfl) ?_
                refine lv_iload hx hb d_MO_reckon_53 (lv_at hl 0 rfl) ?_
                refine lv_lload_n hx hb d_MO_reckon_55 rfl (lv_at hl 4 rfl) ?_
                refine lv_lload hx hb d_MO_reckon_56 (lv_at hl 5 rfl) ?_
                refine f_calli hI (f_runV C hI (c_MO_holds l G h_162 _ x nf lot 1 day on fl fk fd fw fv mf_161 g_x hFc (by omega) (by omega) (by omega) (by omega)) gm_MO_holds w_1028 p_MO_holds w_1026 g_x rfl rfl rfl hl.1 rfl (Nat.le_of_ble_eq_true rfl) ⟨Nat.le_of_ble_eq_true rfl, Nat.le_of_ble_eq_true rfl⟩ d_MO_reckon_58 ⟨Nat.le_of_ble_eq_true rfl, Nat.le_of_ble_eq_true rfl⟩) (fun r_163 h9 H9 locs hp9 hX9 hz9 hI => ?_)
                obtain ⟨rfl, e9⟩ := hp9
                rw [e9] at hI
                clear hX9 e9
                rw [e1, bI_k (by omega)]
                refine lv_iconst (v := (-1)) hx hb d_MO_reckon_61 (by decide) ?_
                refine lv_icmp_ne (tgt := 67) hx hb d_MO_reckon_62 (by decide) (fun c_164 => ?_) (fun c_164 => absurd c_164 (n_m1 (by omega)))
                refine lv_iinc (v := 2) (lv' := [(7, .int 2), (6, .int (nI e1)), (0, .ref x), (1, .int (nI lot)), (2, .long (lN day)), (4, .long (lN on))]) hx hb d_MO_reckon_67 hl (k := 0) rfl (by decide) (by decide) rfl (fun ls hl => ?_)
                refine lv_goto (tgt := 39) hx hb d_MO_reckon_70 (by decide) ?_
                refine lv_iload hx hb d_MO_reckon_39 (lv_at hl 0 rfl) ?_
                refine lv_iconst (v := 3) hx hb d_MO_reckon_41 (by decide) ?_
                refine lv_icmp_ge (tgt := 73) hx hb d_MO_reckon_42 (by decide) (fun c_165 => absurd c_165 (by decide)) (fun c_165 => ?_)
                refine lv_aload_n hx hb d_MO_reckon_45 rfl (lv_at hl 2 rfl) ?_
                refine lv_iload hx hb d_MO_reckon_46 (lv_at hl 0 rfl) ?_
                refine f_put (C := "DutyRulesModel") (T := T_MO) (N := 40) (fs' := mo (va_up mf_161 14 (.int 2))) (v := .int 2) hx hb (fun w q => hT w (s_MO w q)) t_MO k_MO n_MO hown hK hI g_x (by decide) rfl 14 (by decide) (hT _ w_823) (fun _ q => q) rfl rfl rfl (by rw [mo_len]; decide) (mo_set _) d_MO_reckon_48 (fun H locs hI => ?_)
                generalize emf_166 : va_up mf_161 14 (.int 2) = mf_166 at hI
                have v_11 : mf_166 11 = .ref a11 := by rw [← emf_166, va_up_ne _ _ (by decide)]; exact v_11
                have v_15 : mf_166 15 = .ref a15 := by rw [← emf_166, va_up_ne _ _ (by decide)]; exact v_15
                have v_16 : mf_166 16 = .ref a16 := by rw [← emf_166, va_up_ne _ _ (by decide)]; exact v_16
                have v_17 : mf_166 17 = .ref a17 := by rw [← emf_166, va_up_ne _ _ (by decide)]; exact v_17
                have v_18 : mf_166 18 = .int 0 := by rw [← emf_166, va_up_ne _ _ (by decide)]; exact v_18
                have v_19 : mf_166 19 = .long 0 := by rw [← emf_166, va_up_ne _ _ (by decide)]; exact v_19
                have v_20 : mf_166 20 = .long 0 := by rw [← emf_166, va_up_ne _ _ (by decide)]; exact v_20
                have v_14 : mf_166 14 = .int 2 := by rw [← emf_166, va_up_self]
                generalize eh_167 : fU h_162 x (40, 0, .inr (8, mo mf_166)) = h_167 at hI
                have hX := hX.set (e := .inr (8, mo mf_166)) g_x (by decide); rw [eh_167] at hX
                have hF := hF.set (e := .inr (8, mo mf_166)) g_x (by decide); rw [eh_167] at hF
                have g_a15 : h_167 a15 = some (56, 0, .inl ((G.2.1 0), 5, .inl (fun i => nI (sl i)))) := by rw [← eh_167]; exact fU_keep g_a15 (f_neR g_a15 g_x (by decide))
                have g_a16 : h_167 a16 = some (57, 0, .inl ((G.2.1 0), 5, .inl (fun i => nI (sr i)))) := by rw [← eh_167]; exact fU_keep g_a16 (f_neR g_a16 g_x (by decide))
                have g_a17 : h_167 a17 = some (58, 0, .inl ((G.2.1 1), 5, .inr (.inl (fun i => lN (sc i))))) := by rw [← eh_167]; exact fU_keep g_a17 (f_neR g_a17 g_x (by decide))
                have g_a11 : h_167 a11 = some (52, 0, .inl ((G.2.1 1), 300, .inr (.inl (fun i => lN (fv i))))) := by rw [← eh_167]; exact fU_keep g_a11 (f_neR g_a11 g_x (by decide))
                have hW9 : fF (inR [40]) h_162 h_167 := by rw [← eh_167]; exact fF.rf.set g_x (by decide)
                have g_x : h_167 x = some (40, 0, .inr (8, mo mf_166)) := by rw [← eh_167]; exact fU_self _ _ _
                have hFc := mFc.keep (mf' := mf_166) hFc (fun j _ _ => by rw [← emf_166]; exact va_up_ne _ _ (by omega)) hW9 (by decide)
                have hEd := mEd.keep (mf' := mf_166) hEd (fun j _ _ => by rw [← emf_166]; exact va_up_ne _ _ (by omega)) hW9 (by decide)
                have hm1 : ∀ j, j < 14 ∨ 20 < j → mf_166 j = mf j := fun j hj => by rw [← emf_166, va_up_ne _ _ (by omega)]; exact hm1 j hj
                refine lv_aload_n hx hb d_MO_reckon_51 rfl (lv_at hl 2 rfl) ?_
                refine lv_iload_n hx hb d_MO_reckon_52 rfl (lv_at hl 3 rfl) ?_
                refine lv_iload hx hb d_MO_reckon_53 (lv_at hl 0 rfl) ?_
                refine lv_lload_n hx hb d_MO_reckon_55 rfl (lv_at hl 4 rfl) ?_
                refine lv_lload hx hb d_MO_reckon_56 (lv_at hl 5 rfl) ?_
                refine f_calli hI (f_runV C hI (c_MO_holds l G h_167 _ x nf lot 2 day on fl fk fd fw fv mf_166 g_x hFc (by omega) (by omega) (by omega) (by omega)) gm_MO_holds w_1028 p_MO_holds w_1026 g_x rfl rfl rfl hl.1 rfl (Nat.le_of_ble_eq_true rfl) ⟨Nat.le_of_ble_eq_true rfl, Nat.le_of_ble_eq_true rfl⟩ d_MO_reckon_58 ⟨Nat.le_of_ble_eq_true rfl, Nat.le_of_ble_eq_true rfl⟩) (fun r_168 h9 H9 locs hp9 hX9 hz9 hI => ?_)
                obtain ⟨rfl, e9⟩ := hp9
                rw [e9] at hI
                clear hX9 e9
                rw [e2, bI_k (by omega)]
                refine lv_iconst (v := (-1)) hx hb d_MO_reckon_61 (by decide) ?_
                refine lv_icmp_ne (tgt := 67) hx hb d_MO_reckon_62 (by decide) (fun c_169 => ?_) (fun c_169 => absurd c_169 (n_m1 (by omega)))
                refine lv_iinc (v := 3) (lv' := [(7, .int 3), (6, .int (nI e1)), (0, .ref x), (1, .int (nI lot)), (2, .long (lN day)), (4, .long (lN on))]) hx hb d_MO_reckon_67 hl (k := 0) rfl (by decide) (by decide) rfl (fun ls hl => ?_)
                refine lv_goto (tgt := 39) hx hb d_MO_reckon_70 (by decide) ?_
                refine lv_iload hx hb d_MO_reckon_39 (lv_at hl 0 rfl) ?_
                refine lv_iconst (v := 3) hx hb d_MO_reckon_41 (by decide) ?_
                refine lv_icmp_ge (tgt := 73) hx hb d_MO_reckon_42 (by decide) (fun c_170 => ?_) (fun c_170 => absurd (by decide) c_170)
                refine lv_aload_n hx hb d_MO_reckon_73 rfl (lv_at hl 2 rfl) ?_
                refine f_get (C := "DutyRulesModel") (T := T_MO) (N := 40) hx hb (fun w q => hT w (s_MO w q)) hown hK hI g_x rfl 11 (by decide) (hT _ w_820) (fun _ q => q) (mo_get (by decide) v_11) d_MO_reckon_74 ?_
                refine lv_aload_n hx hb d_MO_reckon_77 rfl (lv_at hl 2 rfl) ?_
                refine lv_iload_n hx hb d_MO_reckon_78 rfl (lv_at hl 3 rfl) ?_
                refine lv_iconst (v := 0) hx hb d_MO_reckon_79 (by decide) ?_
                refine lv_lload_n hx hb d_MO_reckon_80 rfl (lv_at hl 4 rfl) ?_
                refine lv_lload hx hb d_MO_reckon_81 (lv_at hl 5 rfl) ?_
                refine f_calli hI (f_runV C hI (c_MO_holds l G h_167 _ x nf lot 0 day on fl fk fd fw fv mf_166 g_x hFc (by omega) (by omega) (by omega) (by omega)) gm_MO_holds w_1028 p_MO_holds w_1026 g_x rfl rfl rfl hl.1 rfl (Nat.le_of_ble_eq_true rfl) ⟨Nat.le_of_ble_eq_true rfl, Nat.le_of_ble_eq_true rfl⟩ d_MO_reckon_83 ⟨Nat.le_of_ble_eq_true rfl, Nat.le_of_ble_eq_true rfl⟩) (fun r_171 h9 H9 locs hp9 hX9 hz9 hI => ?_)
                obtain ⟨rfl, e9⟩ := hp9
                rw [e9] at hI
                clear hX9 e9
                rw [e0, bI_k (by omega)]
                refine f_laldn (k := i0) (v := (lN (fv i0))) hx hb hI g_a11 (fT.ofK hK (t0 := 1) rfl) (by omega) (by omega) rfl d_MO_reckon_86 ?_
                refine lv_lstore (lv' := [(7, .long (lN (fv i0))), (6, .int (nI e1)), (0, .ref x), (1, .int (nI lot)), (2, .long (lN day)), (4, .long (lN on))]) hx hb d_MO_reckon_87 hl (by decide) rfl (fun ls hl => ?_)
                refine lv_aload_n hx hb d_MO_reckon_89 rfl (lv_at hl 2 rfl) ?_
                refine f_get (C := "DutyRulesModel") (T := T_MO) (N := 40) hx hb (fun w q => hT w (s_MO w q)) hown hK hI g_x rfl 11 (by decide) (hT _ w_820) (fun _ q => q) (mo_get (by decide) v_11) d_MO_reckon_90 ?_
                refine lv_aload_n hx hb d_MO_reckon_93 rfl (lv_at hl 2 rfl) ?_
                refine lv_iload_n hx hb d_MO_reckon_94 rfl (lv_at hl 3 rfl) ?_
                refine lv_iconst (v := 1) hx hb d_MO_reckon_95 (by decide) ?_
                refine lv_lload_n hx hb d_MO_reckon_96 rfl (lv_at hl 4 rfl) ?_
                refine lv_lload hx hb d_MO_reckon_97 (lv_at hl 5 rfl) ?_
                refine f_calli hI (f_runV C hI (c_MO_holds l G h_167 _ x nf lot 1 day on fl fk fd fw fv mf_166 g_x hFc (by omega) (by omega) (by omega) (by omega)) gm_MO_holds w_1028 p_MO_holds w_1026 g_x rfl rfl rfl hl.1 rfl (Nat.le_of_ble_eq_true rfl) ⟨Nat.le_of_ble_eq_true rfl, Nat.le_of_ble_eq_true rfl⟩ d_MO_reckon_99 ⟨Nat.le_of_ble_eq_true rfl, Nat.le_of_ble_eq_true rfl⟩) (fun r_172 h9 H9 locs hp9 hX9 hz9 hI => ?_)
                obtain ⟨rfl, e9⟩ := hp9
                rw [e9] at hI
                clear hX9 e9
                rw [e1, bI_k (by omega)]
                refine f_laldn (k := i1) (v := (lN (fv i1))) hx hb hI g_a11 (fT.ofK hK (t0 := 1) rfl) (by omega) (by omega) rfl d_MO_reckon_102 ?_
                refine lv_lstore (lv' := [(9, .long (lN (fv i1))), (7, .long (lN (fv i0))), (6, .int (nI e1)), (0, .ref x), (1, .int (nI lot)), (2, .long (lN day)), (4, .long (lN on))]) hx hb d_MO_reckon_103 hl (by decide) rfl (fun ls hl => ?_)
                refine lv_aload_n hx hb d_MO_reckon_105 rfl (lv_at hl 3 rfl) ?_
                refine f_get (C := "DutyRulesModel") (T := T_MO) (N := 40) hx hb (fun w q => hT w (s_MO w q)) hown hK hI g_x rfl 11 (by decide) (hT _ w_820) (fun _ q => q) (mo_get (by decide) v_11) d_MO_reckon_106 ?_
                refine lv_aload_n hx hb d_MO_reckon_109 rfl (lv_at hl 3 rfl) ?_
                refine lv_iload_n hx hb d_MO_reckon_110 rfl (lv_at hl 4 rfl) ?_
                refine lv_iconst (v := 2) hx hb d_MO_reckon_111 (by decide) ?_
                refine lv_lload_n hx hb d_MO_reckon_112 rfl (lv_at hl 5 rfl) ?_
                refine lv_lload hx hb d_MO_reckon_113 (lv_at hl 6 rfl) ?_
                refine f_calli hI (f_runV C hI (c_MO_holds l G h_167 _ x nf lot 2 day on fl fk fd fw fv mf_166 g_x hFc (by omega) (by omega) (by omega) (by omega)) gm_MO_holds w_1028 p_MO_holds w_1026 g_x rfl rfl rfl hl.1 rfl (Nat.le_of_ble_eq_true rfl) ⟨Nat.le_of_ble_eq_true rfl, Nat.le_of_ble_eq_true rfl⟩ d_MO_reckon_115 ⟨Nat.le_of_ble_eq_true rfl, Nat.le_of_ble_eq_true rfl⟩) (fun r_173 h9 H9 locs hp9 hX9 hz9 hI => ?_)
                obtain ⟨rfl, e9⟩ := hp9
                rw [e9] at hI
                clear hX9 e9
                rw [e2, bI_k (by omega)]
                refine f_laldn (k := i2) (v := (lN (fv i2))) hx hb hI g_a11 (fT.ofK hK (t0 := 1) rfl) (by omega) (by omega) rfl d_MO_reckon_118 ?_
                refine lv_lstore (lv' := [(11, .long (lN (fv i2))), (9, .long (lN (fv i1))), (7, .long (lN (fv i0))), (6, .int (nI e1)), (0, .ref x), (1, .int (nI lot)), (2, .long (lN day)), (4, .long (lN on))]) hx hb d_MO_reckon_119 hl (by decide) rfl (fun ls hl => ?_)
                refine lv_aload_n hx hb d_MO_reckon_121 rfl (lv_at hl 4 rfl) ?_
                refine lv_iload hx hb d_MO_reckon_122 (lv_at hl 3 rfl) ?_
                refine lv_iconst (v := 0) hx hb d_MO_reckon_124 (by decide) ?_
                refine lv_lload hx hb d_MO_reckon_125 (lv_at hl 2 rfl) ?_
                refine lv_lload hx hb d_MO_reckon_127 (lv_at hl 1 rfl) ?_
                refine f_calli hI (f_runV C hI (c_MO_find l G h_167 _ x e1 0 (fv i0) (fv i1) mf_166 g_x ne ef rr rm hEd (by omega) (by omega) (by omega) (by omega)) gm_MO_find w_1032 p_MO_find w_1030 g_x rfl rfl rfl hl.1 rfl (Nat.le_of_ble_eq_true rfl) ⟨Nat.le_of_ble_eq_true rfl, Nat.le_of_ble_eq_true rfl⟩ d_MO_reckon_129 ⟨Nat.le_of_ble_eq_true rfl, Nat.le_of_ble_eq_true rfl⟩) (fun r_174 h9 H9 locs hp9 hX9 hz9 hI => ?_)
                obtain ⟨rfl, e9⟩ := hp9
                rw [e9] at hI
                clear hX9 e9
                rw [eR]
                refine lv_istore (lv' := [(13, .int (nI rate)), (11, .long (lN (fv i2))), (9, .long (lN (fv i1))), (7, .long (lN (fv i0))), (6, .int (nI e1)), (0, .ref x), (1, .int (nI lot)), (2, .long (lN day)), (4, .long (lN on))]) hx hb d_MO_reckon_132 hl (by decide) rfl (fun ls hl => ?_)
                refine lv_aload_n hx hb d_MO_reckon_134 rfl (lv_at hl 5 rfl) ?_
                refine lv_iload hx hb d_MO_reckon_135 (lv_at hl 4 rfl) ?_
                refine lv_iconst (v := 1) hx hb d_MO_reckon_137 (by decide) ?_
                refine lv_lload hx hb d_MO_reckon_138 (lv_at hl 3 rfl) ?_
                refine lv_lconst (v := 0) hx hb d_MO_reckon_140 (by decide) ?_
                refine f_calli hI (f_runV C hI (c_MO_find l G h_167 _ x e1 1 (fv i0) 0 mf_166 g_x ne ef rr rm hEd (by omega) (by omega) (by omega) (by omega)) gm_MO_find w_1032 p_MO_find w_1030 g_x rfl rfl rfl hl.1 rfl (Nat.le_of_ble_eq_true rfl) ⟨Nat.le_of_ble_eq_true rfl, Nat.le_of_ble_eq_true rfl⟩ d_MO_reckon_141 ⟨Nat.le_of_ble_eq_true rfl, Nat.le_of_ble_eq_true rfl⟩) (fun r_175 h9 H9 locs hp9 hX9 hz9 hI => ?_)
                obtain ⟨rfl, e9⟩ := hp9
                rw [e9] at hI
                clear hX9 e9
                rw [eS]
                refine lv_istore (lv' := [(14, .int (-1)), (13, .int (nI rate)), (11, .long (lN (fv i2))), (9, .long (lN (fv i1))), (7, .long (lN (fv i0))), (6, .int (nI e1)), (0, .ref x), (1, .int (nI lot)), (2, .long (lN day)), (4, .long (lN on))]) hx hb d_MO_reckon_144 hl (by decide) rfl (fun ls hl => ?_)
                refine lv_aload_n hx hb d_MO_reckon_146 rfl (lv_at hl 6 rfl) ?_
                refine lv_iload_n hx hb d_MO_reckon_147 rfl (lv_at hl 7 rfl) ?_
                refine lv_iconst (v := 3) hx hb d_MO_reckon_148 (by decide) ?_
                refine lv_lload_n hx hb d_MO_reckon_149 rfl (lv_at hl 8 rfl) ?_
                refine lv_lload hx hb d_MO_reckon_150 (lv_at hl 9 rfl) ?_
                refine f_calli hI (f_runV C hI (c_MO_holds l G h_167 _ x nf lot 3 day on fl fk fd fw fv mf_166 g_x hFc (by omega) (by omega) (by omega) (by omega)) gm_MO_holds w_1028 p_MO_holds w_1026 g_x rfl rfl rfl hl.1 rfl (Nat.le_of_ble_eq_true rfl) ⟨Nat.le_of_ble_eq_true rfl, Nat.le_of_ble_eq_true rfl⟩ d_MO_reckon_152 ⟨Nat.le_of_ble_eq_true rfl, Nat.le_of_ble_eq_true rfl⟩) (fun r_176 h9 H9 locs hp9 hX9 hz9 hI => ?_)
                obtain ⟨rfl, e9⟩ := hp9
                rw [e9] at hI
                clear hX9 e9
                refine lv_istore (lv' := [(15, .int (bI (hk fl fk fd fw lot 3 day on nf))), (14, .int (-1)), (13, .int (nI rate)), (11, .long (lN (fv i2))), (9, .long (lN (fv i1))), (7, .long (lN (fv i0))), (6, .int (nI e1)), (0, .ref x), (1, .int (nI lot)), (2, .long (lN day)), (4, .long (lN on))]) hx hb d_MO_reckon_155 hl (by decide) rfl (fun ls hl => ?_)
                refine lv_aload_n hx hb d_MO_reckon_157 rfl (lv_at hl 7 rfl) ?_
                refine lv_iload hx hb d_MO_reckon_158 (lv_at hl 2 rfl) ?_
                refine lv_iconst (v := (-1)) hx hb d_MO_reckon_160 (by decide) ?_
                refine lv_icmp_ne (tgt := 169) hx hb d_MO_reckon_161 (by decide) (fun c_177 => ?_) (fun c_177 => absurd c_177 (n_m1 (by omega)))
                refine lv_iconst (v := 3) hx hb d_MO_reckon_169 (by decide) ?_
                refine f_put (C := "DutyRulesModel") (T := T_MO) (N := 40) (fs' := mo (va_up mf_166 14 (.int 3))) (v := .int 3) hx hb (fun w q => hT w (s_MO w q)) t_MO k_MO n_MO hown hK hI g_x (by decide) rfl 14 (by decide) (hT _ w_823) (fun _ q => q) rfl rfl rfl (by rw [mo_len]; decide) (mo_set _) d_MO_reckon_170 (fun H locs hI => ?_)
                generalize emf_178 : va_up mf_166 14 (.int 3) = mf_178 at hI
                have v_11 : mf_178 11 = .ref a11 := by rw [← emf_178, va_up_ne _ _ (by decide)]; exact v_11
                have v_15 : mf_178 15 = .ref a15 := by rw [← emf_178, va_up_ne _ _ (by decide)]; exact v_15
                have v_16 : mf_178 16 = .ref a16 := by rw [← emf_178, va_up_ne _ _ (by decide)]; exact v_16
                have v_17 : mf_178 17 = .ref a17 := by rw [← emf_178, va_up_ne _ _ (by decide)]; exact v_17
                have v_18 : mf_178 18 = .int 0 := by rw [← emf_178, va_up_ne _ _ (by decide)]; exact v_18
                have v_19 : mf_178 19 = .long 0 := by rw [← emf_178, va_up_ne _ _ (by decide)]; exact v_19
                have v_20 : mf_178 20 = .long 0 := by rw [← emf_178, va_up_ne _ _ (by decide)]; exact v_20
                have v_14 : mf_178 14 = .int 3 := by rw [← emf_178, va_up_self]
                generalize eh_179 : fU h_167 x (40, 0, .inr (8, mo mf_178)) = h_179 at hI
                have hX := hX.set (e := .inr (8, mo mf_178)) g_x (by decide); rw [eh_179] at hX
                have hF := hF.set (e := .inr (8, mo mf_178)) g_x (by decide); rw [eh_179] at hF
                have g_a15 : h_179 a15 = some (56, 0, .inl ((G.2.1 0), 5, .inl (fun i => nI (sl i)))) := by rw [← eh_179]; exact fU_keep g_a15 (f_neR g_a15 g_x (by decide))
                have g_a16 : h_179 a16 = some (57, 0, .inl ((G.2.1 0), 5, .inl (fun i => nI (sr i)))) := by rw [← eh_179]; exact fU_keep g_a16 (f_neR g_a16 g_x (by decide))
                have g_a17 : h_179 a17 = some (58, 0, .inl ((G.2.1 1), 5, .inr (.inl (fun i => lN (sc i))))) := by rw [← eh_179]; exact fU_keep g_a17 (f_neR g_a17 g_x (by decide))
                have g_a11 : h_179 a11 = some (52, 0, .inl ((G.2.1 1), 300, .inr (.inl (fun i => lN (fv i))))) := by rw [← eh_179]; exact fU_keep g_a11 (f_neR g_a11 g_x (by decide))
                have hW9 : fF (inR [40]) h_167 h_179 := by rw [← eh_179]; exact fF.rf.set g_x (by decide)
                have g_x : h_179 x = some (40, 0, .inr (8, mo mf_178)) := by rw [← eh_179]; exact fU_self _ _ _
                have hFc := mFc.keep (mf' := mf_178) hFc (fun j _ _ => by rw [← emf_178]; exact va_up_ne _ _ (by omega)) hW9 (by decide)
                have hEd := mEd.keep (mf' := mf_178) hEd (fun j _ _ => by rw [← emf_178]; exact va_up_ne _ _ (by omega)) hW9 (by decide)
                have hm1 : ∀ j, j < 14 ∨ 20 < j → mf_178 j = mf j := fun j hj => by rw [← emf_178, va_up_ne _ _ (by omega)]; exact hm1 j hj
                refine lv_iload hx hb d_MO_reckon_173 (lv_at hl 2 rfl) ?_
                refine lv_iconst (v := (-1)) hx hb d_MO_reckon_175 (by decide) ?_
                refine lv_icmp_eq (tgt := 191) hx hb d_MO_reckon_176 (by decide) (fun c_180 => absurd c_180 (n_m1 (by omega))) (fun c_180 => ?_)
                refine lv_iload hx hb d_MO_reckon_179 (lv_at hl 1 rfl) ?_
                refine lv_iconst (v := (-1)) hx hb d_MO_reckon_181 (by decide) ?_
                refine lv_icmp_eq (tgt := 193) hx hb d_MO_reckon_182 (by decide) (fun c_181 => ?_) (fun c_181 => absurd rfl c_181)
                refine lv_aload_n hx hb d_MO_reckon_193 rfl (lv_at hl 7 rfl) ?_
                refine lv_iconst (v := (-1)) hx hb d_MO_reckon_194 (by decide) ?_
                refine f_put (C := "DutyRulesModel") (T := T_MO) (N := 40) (fs' := mo (va_up mf_178 14 (.int (-1)))) (v := .int (-1)) hx hb (fun w q => hT w (s_MO w q)) t_MO k_MO n_MO hown hK hI g_x (by decide) rfl 14 (by decide) (hT _ w_823) (fun _ q => q) rfl rfl rfl (by rw [mo_len]; decide) (mo_set _) d_MO_reckon_195 (fun H locs hI => ?_)
                generalize emf_182 : va_up mf_178 14 (.int (-1)) = mf_182 at hI
                have v_11 : mf_182 11 = .ref a11 := by rw [← emf_182, va_up_ne _ _ (by decide)]; exact v_11
                have v_15 : mf_182 15 = .ref a15 := by rw [← emf_182, va_up_ne _ _ (by decide)]; exact v_15
                have v_16 : mf_182 16 = .ref a16 := by rw [← emf_182, va_up_ne _ _ (by decide)]; exact v_16
                have v_17 : mf_182 17 = .ref a17 := by rw [← emf_182, va_up_ne _ _ (by decide)]; exact v_17
                have v_18 : mf_182 18 = .int 0 := by rw [← emf_182, va_up_ne _ _ (by decide)]; exact v_18
                have v_19 : mf_182 19 = .long 0 := by rw [← emf_182, va_up_ne _ _ (by decide)]; exact v_19
                have v_20 : mf_182 20 = .long 0 := by rw [← emf_182, va_up_ne _ _ (by decide)]; exact v_20
                have v_14 : mf_182 14 = .int (-1) := by rw [← emf_182, va_up_self]
                generalize eh_183 : fU h_179 x (40, 0, .inr (8, mo mf_182)) = h_183 at hI
                have hX := hX.set (e := .inr (8, mo mf_182)) g_x (by decide); rw [eh_183] at hX
                have hF := hF.set (e := .inr (8, mo mf_182)) g_x (by decide); rw [eh_183] at hF
                have g_a15 : h_183 a15 = some (56, 0, .inl ((G.2.1 0), 5, .inl (fun i => nI (sl i)))) := by rw [← eh_183]; exact fU_keep g_a15 (f_neR g_a15 g_x (by decide))
                have g_a16 : h_183 a16 = some (57, 0, .inl ((G.2.1 0), 5, .inl (fun i => nI (sr i)))) := by rw [← eh_183]; exact fU_keep g_a16 (f_neR g_a16 g_x (by decide))
                have g_a17 : h_183 a17 = some (58, 0, .inl ((G.2.1 1), 5, .inr (.inl (fun i => lN (sc i))))) := by rw [← eh_183]; exact fU_keep g_a17 (f_neR g_a17 g_x (by decide))
                have g_a11 : h_183 a11 = some (52, 0, .inl ((G.2.1 1), 300, .inr (.inl (fun i => lN (fv i))))) := by rw [← eh_183]; exact fU_keep g_a11 (f_neR g_a11 g_x (by decide))
                have hW9 : fF (inR [40]) h_179 h_183 := by rw [← eh_183]; exact fF.rf.set g_x (by decide)
                have g_x : h_183 x = some (40, 0, .inr (8, mo mf_182)) := by rw [← eh_183]; exact fU_self _ _ _
                have hFc := mFc.keep (mf' := mf_182) hFc (fun j _ _ => by rw [← emf_182]; exact va_up_ne _ _ (by omega)) hW9 (by decide)
                have hEd := mEd.keep (mf' := mf_182) hEd (fun j _ _ => by rw [← emf_182]; exact va_up_ne _ _ (by omega)) hW9 (by decide)
                have hm1 : ∀ j, j < 14 ∨ 20 < j → mf_182 j = mf j := fun j hj => by rw [← emf_182, va_up_ne _ _ (by omega)]; exact hm1 j hj
                refine lv_aload_n hx hb d_MO_reckon_198 rfl (lv_at hl 7 rfl) ?_
                refine lv_iload hx hb d_MO_reckon_199 (lv_at hl 6 rfl) ?_
                refine lv_iload hx hb d_MO_reckon_201 (lv_at hl 2 rfl) ?_
                refine lv_iconst (v := 4) hx hb d_MO_reckon_203 (by decide) ?_
                refine f_calli hI (f_runV C hI (c_MO_value l G h_183 _ x e1 rate 4 mf_182 g_x ne ef rr rm hEd (by omega) (by omega) (by omega)) gm_MO_value w_1036 p_MO_value w_1034 g_x rfl rfl rfl hl.1 rfl (Nat.le_of_ble_eq_true rfl) ⟨Nat.le_of_ble_eq_true rfl, Nat.le_of_ble_eq_true rfl⟩ d_MO_reckon_204 ⟨Nat.le_of_ble_eq_true rfl, Nat.le_of_ble_eq_true rfl⟩) (fun r_184 h9 H9 locs hp9 hX9 hz9 hI => ?_)
                obtain ⟨rfl, e9⟩ := hp9
                rw [e9] at hI
                clear hX9 e9
                refine lv_i2l (v := lN (rr ((e1 * 40 + rate) * 5 + 4))) hx hb d_MO_reckon_207 (n_i2l (by have := brr ((e1 * 40 + rate) * 5 + 4); omega)) ?_
                refine lv_lstore (lv' := [(16, .long (lN (rr ((e1 * 40 + rate) * 5 + 4)))), (15, .int (bI (hk fl fk fd fw lot 3 day on nf))), (14, .int (-1)), (13, .int (nI rate)), (11, .long (lN (fv i2))), (9, .long (lN (fv i1))), (7, .long (lN (fv i0))), (6, .int (nI e1)), (0, .ref x), (1, .int (nI lot)), (2, .long (lN day)), (4, .long (lN on))]) hx hb d_MO_reckon_208 hl (by decide) rfl (fun ls hl => ?_)
                refine lv_aload_n hx hb d_MO_reckon_210 rfl (lv_at hl 8 rfl) ?_
                refine lv_lload hx hb d_MO_reckon_211 (lv_at hl 4 rfl) ?_
                refine lv_lload hx hb d_MO_reckon_213 (lv_at hl 0 rfl) ?_
                refine lv_lmul hx hb d_MO_reckon_215 ?_
                refine f_asl (lN_mul (fv i2) (rr ((e1 * 40 + rate) * 5 + 4))) ?_
                refine lv_ldc2 (v := 1000000) hx hb hown (hT _ w_1008) d_MO_reckon_216 ?_
                refine lv_lmul hx hb d_MO_reckon_219 ?_
                refine f_asl (lN_mul ((fv i2) * (rr ((e1 * 40 + rate) * 5 + 4))) 1000000) ?_
                refine f_put (C := "DutyRulesModel") (T := T_MO) (N := 40) (fs' := mo (va_up mf_182 20 (.long (lN (((fv i2) * (rr ((e1 * 40 + rate) * 5 + 4))) * 1000000))))) (v := .long (lN (((fv i2) * (rr ((e1 * 40 + rate) * 5 + 4))) * 1000000))) hx hb (fun w q => hT w (s_MO w q)) t_MO k_MO n_MO hown hK hI g_x (by decide) rfl 20 (by decide) (hT _ w_829) (fun _ q => q) rfl rfl rfl (by rw [mo_len]; decide) (mo_set _) d_MO_reckon_220 (fun H locs hI => ?_)
                generalize emf_185 : va_up mf_182 20 (.long (lN (((fv i2) * (rr ((e1 * 40 + rate) * 5 + 4))) * 1000000))) = mf_185 at hI
                have v_11 : mf_185 11 = .ref a11 := by rw [← emf_185, va_up_ne _ _ (by decide)]; exact v_11
                have v_14 : mf_185 14 = .int (-1) := by rw [← emf_185, va_up_ne _ _ (by decide)]; exact v_14
                have v_15 : mf_185 15 = .ref a15 := by rw [← emf_185, va_up_ne _ _ (by decide)]; exact v_15
                have v_16 : mf_185 16 = .ref a16 := by rw [← emf_185, va_up_ne _ _ (by decide)]; exact v_16
                have v_17 : mf_185 17 = .ref a17 := by rw [← emf_185, va_up_ne _ _ (by decide)]; exact v_17
                have v_18 : mf_185 18 = .int 0 := by rw [← emf_185, va_up_ne _ _ (by decide)]; exact v_18
                have v_19 : mf_185 19 = .long 0 := by rw [← emf_185, va_up_ne _ _ (by decide)]; exact v_19
                have v_20 : mf_185 20 = .long (lN (((fv i2) * (rr ((e1 * 40 + rate) * 5 + 4))) * 1000000)) := by rw [← emf_185, va_up_self]
                generalize eh_186 : fU h_183 x (40, 0, .inr (8, mo mf_185)) = h_186 at hI
                have hX := hX.set (e := .inr (8, mo mf_185)) g_x (by decide); rw [eh_186] at hX
                have hF := hF.set (e := .inr (8, mo mf_185)) g_x (by decide); rw [eh_186] at hF
                have g_a15 : h_186 a15 = some (56, 0, .inl ((G.2.1 0), 5, .inl (fun i => nI (sl i)))) := by rw [← eh_186]; exact fU_keep g_a15 (f_neR g_a15 g_x (by decide))
                have g_a16 : h_186 a16 = some (57, 0, .inl ((G.2.1 0), 5, .inl (fun i => nI (sr i)))) := by rw [← eh_186]; exact fU_keep g_a16 (f_neR g_a16 g_x (by decide))
                have g_a17 : h_186 a17 = some (58, 0, .inl ((G.2.1 1), 5, .inr (.inl (fun i => lN (sc i))))) := by rw [← eh_186]; exact fU_keep g_a17 (f_neR g_a17 g_x (by decide))
                have g_a11 : h_186 a11 = some (52, 0, .inl ((G.2.1 1), 300, .inr (.inl (fun i => lN (fv i))))) := by rw [← eh_186]; exact fU_keep g_a11 (f_neR g_a11 g_x (by decide))
                have hW9 : fF (inR [40]) h_183 h_186 := by rw [← eh_186]; exact fF.rf.set g_x (by decide)
                have g_x : h_186 x = some (40, 0, .inr (8, mo mf_185)) := by rw [← eh_186]; exact fU_self _ _ _
                have hFc := mFc.keep (mf' := mf_185) hFc (fun j _ _ => by rw [← emf_185]; exact va_up_ne _ _ (by omega)) hW9 (by decide)
                have hEd := mEd.keep (mf' := mf_185) hEd (fun j _ _ => by rw [← emf_185]; exact va_up_ne _ _ (by omega)) hW9 (by decide)
                have hm1 : ∀ j, j < 14 ∨ 20 < j → mf_185 j = mf j := fun j hj => by rw [← emf_185, va_up_ne _ _ (by omega)]; exact hm1 j hj
                refine lv_aload_n hx hb d_MO_reckon_223 rfl (lv_at hl 8 rfl) ?_
                refine lv_iconst (v := 0) hx hb d_MO_reckon_224 (by decide) ?_
                refine lv_iload hx hb d_MO_reckon_225 (lv_at hl 3 rfl) ?_
                have hz8 := hI.2.2.2.1
                refine f_callv hI (f_runV C hI (c_MO_step l G h_186 _ x 0 rate mf_185 g_x _ _ sl sr sc _ _ ⟨a15, a16, a17, ⟨v_14, v_15, v_16, v_17, v_18, v_19, v_20⟩, ⟨g_a15, g_a16, g_a17⟩⟩ (by omega) (by omega)) gm_MO_step w_1040 p_MO_step w_1038 g_x rfl rfl rfl hl.1 rfl (Nat.le_of_ble_eq_true rfl) ⟨Nat.le_of_ble_eq_true rfl, Nat.le_of_ble_eq_true rfl⟩ d_MO_reckon_227 ⟨Nat.le_of_ble_eq_true rfl, Nat.le_of_ble_eq_true rfl⟩) (fun h9 H9 locs hp9 hX9 hz9 hI => ?_)
                obtain ⟨mf_188, g_x, hm9, hSt, hF9⟩ := hp9
                have hFc := hFc.keep (fun j _ _ => hm9 j (by omega)) hF9 (by decide)
                have hEd := hEd.keep (fun j _ _ => hm9 j (by omega)) hF9 (by decide)
                have hm1 : ∀ j, j < 14 ∨ 20 < j → mf_188 j = mf j := fun j hj => (hm9 j (by omega)).trans (hm1 j hj)
                have hF := hF.tr hF9
                have hX := fX.tr (by omega) hX hX9
                refine JB e1 (fv i0) (fv i2) rate (rr ((e1 * 40 + rate) * 5 + 4)) be hg0 hg2 hrt.2.2 _ mf_188 (sA (fv i2) (rr ((e1 * 40 + rate) * 5 + 4)) rate) _ _ g_x hFc hEd ?_ hm1 hF hX hI hrk ⟨Nat.le_refl 1, rfl, rfl, h3⟩ ls ?_
                · exact ⟨va_up sl 0 0, va_up sr 0 rate, va_up sc 0 ((((fv i2) * (rr ((e1 * 40 + rate) * 5 + 4))) * 1000000) / CT), hSt, mSd.add (L := []) (fun i q hi => by simp at hi) 0 rate _⟩
                rw [eS]
                exact lv_sub hl [8, 9, 10, 11, 7, 6, 4, 3, 2, 1, 0] rfl
              · obtain ⟨-, r2, r3⟩ := ff_in eS
                rcases hk_ix (fl := fl) (fk := fk) (fd := fd) (fw := fw) (lot := lot) (kind := 3) (day := day) (on := on) nf with e3 | ⟨i3, hi3, e3, hh3⟩
                · exact absurd ⟨by unfold mF; rw [eS]; rfl, by show (kv fv (hk fl fk fd fw lot 3 day on nf)).isNone = true; rw [e3]; rfl⟩ h3
                · skip
                  refine lv_aload_n hx hb d_MO_reckon_0 rfl (lv_at hl 0 rfl) ?_
                  refine lv_iconst (v := 0) hx hb d_MO_reckon_1 (by decide) ?_
                  refine f_put (C := "DutyRulesModel") (T := T_MO) (N := 40) (fs' := mo (va_up mf 18 (.int 0))) (v := .int 0) hx hb (fun w q => hT w (s_MO w q)) t_MO k_MO n_MO hown hK hI g_x (by decide) rfl 18 (by decide) (hT _ w_827) (fun _ q => q) rfl rfl rfl (by rw [mo_len]; decide) (mo_set _) d_MO_reckon_2 (fun H locs hI => ?_)
                  generalize emf_189 : va_up mf 18 (.int 0) = mf_189 at hI
                  have v_11 : mf_189 11 = .ref a11 := by rw [← emf_189, va_up_ne _ _ (by decide)]; exact v_11
                  have v_14 : mf_189 14 = .int rs := by rw [← emf_189, va_up_ne _ _ (by decide)]; exact v_14
                  have v_15 : mf_189 15 = .ref a15 := by rw [← emf_189, va_up_ne _ _ (by decide)]; exact v_15
                  have v_16 : mf_189 16 = .ref a16 := by rw [← emf_189, va_up_ne _ _ (by decide)]; exact v_16
                  have v_17 : mf_189 17 = .ref a17 := by rw [← emf_189, va_up_ne _ _ (by decide)]; exact v_17
                  have v_19 : mf_189 19 = .long (lN fr) := by rw [← emf_189, va_up_ne _ _ (by decide)]; exact v_19
                  have v_20 : mf_189 20 = .long (lN ce) := by rw [← emf_189, va_up_ne _ _ (by decide)]; exact v_20
                  have v_18 : mf_189 18 = .int 0 := by rw [← emf_189, va_up_self]
                  generalize eh_190 : fU h x (40, 0, .inr (8, mo mf_189)) = h_190 at hI
                  have hX := hX.set (e := .inr (8, mo mf_189)) g_x (by decide); rw [eh_190] at hX
                  have hF := hF.set (e := .inr (8, mo mf_189)) g_x (by decide); rw [eh_190] at hF
                  have g_a15 : h_190 a15 = some (56, 0, .inl ((G.2.1 0), 5, .inl (fun i => nI (sl i)))) := by rw [← eh_190]; exact fU_keep g_a15 (f_neR g_a15 g_x (by decide))
                  have g_a16 : h_190 a16 = some (57, 0, .inl ((G.2.1 0), 5, .inl (fun i => nI (sr i)))) := by rw [← eh_190]; exact fU_keep g_a16 (f_neR g_a16 g_x (by decide))
                  have g_a17 : h_190 a17 = some (58, 0, .inl ((G.2.1 1), 5, .inr (.inl (fun i => lN (sc i))))) := by rw [← eh_190]; exact fU_keep g_a17 (f_neR g_a17 g_x (by decide))
                  have g_a11 : h_190 a11 = some (52, 0, .inl ((G.2.1 1), 300, .inr (.inl (fun i => lN (fv i))))) := by rw [← eh_190]; exact fU_keep g_a11 (f_neR g_a11 g_x (by decide))
                  have hW9 : fF (inR [40]) h h_190 := by rw [← eh_190]; exact fF.rf.set g_x (by decide)
                  have g_x : h_190 x = some (40, 0, .inr (8, mo mf_189)) := by rw [← eh_190]; exact fU_self _ _ _
                  have hFc := mFc.keep (mf' := mf_189) hFc (fun j _ _ => by rw [← emf_189]; exact va_up_ne _ _ (by omega)) hW9 (by decide)
                  have hEd := mEd.keep (mf' := mf_189) hEd (fun j _ _ => by rw [← emf_189]; exact va_up_ne _ _ (by omega)) hW9 (by decide)
                  have hm1 : ∀ j, j < 14 ∨ 20 < j → mf_189 j = mf j := fun j hj => by rw [← emf_189, va_up_ne _ _ (by omega)]; exact hm1 j hj
                  refine lv_aload_n hx hb d_MO_reckon_5 rfl (lv_at hl 0 rfl) ?_
                  refine lv_lconst (v := 0) hx hb d_MO_reckon_6 (by decide) ?_
                  refine f_put (C := "DutyRulesModel") (T := T_MO) (N := 40) (fs' := mo (va_up mf_189 19 (.long 0))) (v := .long 0) hx hb (fun w q => hT w (s_MO w q)) t_MO k_MO n_MO hown hK hI g_x (by decide) rfl 19 (by decide) (hT _ w_828) (fun _ q => q) rfl rfl rfl (by rw [mo_len]; decide) (mo_set _) d_MO_reckon_7 (fun H locs hI => ?_)
                  generalize emf_191 : va_up mf_189 19 (.long 0) = mf_191 at hI
                  have v_11 : mf_191 11 = .ref a11 := by rw [← emf_191, va_up_ne _ _ (by decide)]; exact v_11
                  have v_14 : mf_191 14 = .int rs := by rw [← emf_191, va_up_ne _ _ (by decide)]; exact v_14
                  have v_15 : mf_191 15 = .ref a15 := by rw [← emf_191, va_up_ne _ _ (by decide)]; exact v_15
                  have v_16 : mf_191 16 = .ref a16 := by rw [← emf_191, va_up_ne _ _ (by decide)]; exact v_16
                  have v_17 : mf_191 17 = .ref a17 := by rw [← emf_191, va_up_ne _ _ (by decide)]; exact v_17
                  have v_18 : mf_191 18 = .int 0 := by rw [← emf_191, va_up_ne _ _ (by decide)]; exact v_18
                  have v_20 : mf_191 20 = .long (lN ce) := by rw [← emf_191, va_up_ne _ _ (by decide)]; exact v_20
                  have v_19 : mf_191 19 = .long 0 := by rw [← emf_191, va_up_self]
                  generalize eh_192 : fU h_190 x (40, 0, .inr (8, mo mf_191)) = h_192 at hI
                  have hX := hX.set (e := .inr (8, mo mf_191)) g_x (by decide); rw [eh_192] at hX
                  have hF := hF.set (e := .inr (8, mo mf_191)) g_x (by decide); rw [eh_192] at hF
                  have g_a15 : h_192 a15 = some (56, 0, .inl ((G.2.1 0), 5, .inl (fun i => nI (sl i)))) := by rw [← eh_192]; exact fU_keep g_a15 (f_neR g_a15 g_x (by decide))
                  have g_a16 : h_192 a16 = some (57, 0, .inl ((G.2.1 0), 5, .inl (fun i => nI (sr i)))) := by rw [← eh_192]; exact fU_keep g_a16 (f_neR g_a16 g_x (by decide))
                  have g_a17 : h_192 a17 = some (58, 0, .inl ((G.2.1 1), 5, .inr (.inl (fun i => lN (sc i))))) := by rw [← eh_192]; exact fU_keep g_a17 (f_neR g_a17 g_x (by decide))
                  have g_a11 : h_192 a11 = some (52, 0, .inl ((G.2.1 1), 300, .inr (.inl (fun i => lN (fv i))))) := by rw [← eh_192]; exact fU_keep g_a11 (f_neR g_a11 g_x (by decide))
                  have hW9 : fF (inR [40]) h_190 h_192 := by rw [← eh_192]; exact fF.rf.set g_x (by decide)
                  have g_x : h_192 x = some (40, 0, .inr (8, mo mf_191)) := by rw [← eh_192]; exact fU_self _ _ _
                  have hFc := mFc.keep (mf' := mf_191) hFc (fun j _ _ => by rw [← emf_191]; exact va_up_ne _ _ (by omega)) hW9 (by decide)
                  have hEd := mEd.keep (mf' := mf_191) hEd (fun j _ _ => by rw [← emf_191]; exact va_up_ne _ _ (by omega)) hW9 (by decide)
                  have hm1 : ∀ j, j < 14 ∨ 20 < j → mf_191 j = mf j := fun j hj => by rw [← emf_191, va_up_ne _ _ (by omega)]; exact hm1 j hj
                  refine lv_aload_n hx hb d_MO_reckon_10 rfl (lv_at hl 0 rfl) ?_
                  refine lv_lconst (v := 0) hx hb d_MO_reckon_11 (by decide) ?_
                  refine f_put (C := "DutyRulesModel") (T := T_MO) (N := 40) (fs' := mo (va_up mf_191 20 (.long 0))) (v := .long 0) hx hb (fun w q => hT w (s_MO w q)) t_MO k_MO n_MO hown hK hI g_x (by decide) rfl 20 (by decide) (hT _ w_829) (fun _ q => q) rfl rfl rfl (by rw [mo_len]; decide) (mo_set _) d_MO_reckon_12 (fun H locs hI => ?_)
                  generalize emf_193 : va_up mf_191 20 (.long 0) = mf_193 at hI
                  have v_11 : mf_193 11 = .ref a11 := by rw [← emf_193, va_up_ne _ _ (by decide)]; exact v_11
                  have v_14 : mf_193 14 = .int rs := by rw [← emf_193, va_up_ne _ _ (by decide)]; exact v_14
                  have v_15 : mf_193 15 = .ref a15 := by rw [← emf_193, va_up_ne _ _ (by decide)]; exact v_15
                  have v_16 : mf_193 16 = .ref a16 := by rw [← emf_193, va_up_ne _ _ (by decide)]; exact v_16
                  have v_17 : mf_193 17 = .ref a17 := by rw [← emf_193, va_up_ne _ _ (by decide)]; exact v_17
                  have v_18 : mf_193 18 = .int 0 := by rw [← emf_193, va_up_ne _ _ (by decide)]; exact v_18
                  have v_19 : mf_193 19 = .long 0 := by rw [← emf_193, va_up_ne _ _ (by decide)]; exact v_19
                  have v_20 : mf_193 20 = .long 0 := by rw [← emf_193, va_up_self]
                  generalize eh_194 : fU h_192 x (40, 0, .inr (8, mo mf_193)) = h_194 at hI
                  have hX := hX.set (e := .inr (8, mo mf_193)) g_x (by decide); rw [eh_194] at hX
                  have hF := hF.set (e := .inr (8, mo mf_193)) g_x (by decide); rw [eh_194] at hF
                  have g_a15 : h_194 a15 = some (56, 0, .inl ((G.2.1 0), 5, .inl (fun i => nI (sl i)))) := by rw [← eh_194]; exact fU_keep g_a15 (f_neR g_a15 g_x (by decide))
                  have g_a16 : h_194 a16 = some (57, 0, .inl ((G.2.1 0), 5, .inl (fun i => nI (sr i)))) := by rw [← eh_194]; exact fU_keep g_a16 (f_neR g_a16 g_x (by decide))
                  have g_a17 : h_194 a17 = some (58, 0, .inl ((G.2.1 1), 5, .inr (.inl (fun i => lN (sc i))))) := by rw [← eh_194]; exact fU_keep g_a17 (f_neR g_a17 g_x (by decide))
                  have g_a11 : h_194 a11 = some (52, 0, .inl ((G.2.1 1), 300, .inr (.inl (fun i => lN (fv i))))) := by rw [← eh_194]; exact fU_keep g_a11 (f_neR g_a11 g_x (by decide))
                  have hW9 : fF (inR [40]) h_192 h_194 := by rw [← eh_194]; exact fF.rf.set g_x (by decide)
                  have g_x : h_194 x = some (40, 0, .inr (8, mo mf_193)) := by rw [← eh_194]; exact fU_self _ _ _
                  have hFc := mFc.keep (mf' := mf_193) hFc (fun j _ _ => by rw [← emf_193]; exact va_up_ne _ _ (by omega)) hW9 (by decide)
                  have hEd := mEd.keep (mf' := mf_193) hEd (fun j _ _ => by rw [← emf_193]; exact va_up_ne _ _ (by omega)) hW9 (by decide)
                  have hm1 : ∀ j, j < 14 ∨ 20 < j → mf_193 j = mf j := fun j hj => by rw [← emf_193, va_up_ne _ _ (by omega)]; exact hm1 j hj
                  refine lv_aload_n hx hb d_MO_reckon_15 rfl (lv_at hl 0 rfl) ?_
                  refine lv_lload_n hx hb d_MO_reckon_16 rfl (lv_at hl 2 rfl) ?_
                  refine f_calli hI (f_runV C hI (c_MO_editionOf l G h_194 _ x day mf_193 g_x ne ef rr rm hEd (by omega)) gm_MO_editionOf w_1024 p_MO_editionOf w_1022 g_x rfl rfl rfl hl.1 rfl (Nat.le_of_ble_eq_true rfl) ⟨Nat.le_of_ble_eq_true rfl, Nat.le_of_ble_eq_true rfl⟩ d_MO_reckon_17 ⟨Nat.le_of_ble_eq_true rfl, Nat.le_of_ble_eq_true rfl⟩) (fun r_195 h9 H9 locs hp9 hX9 hz9 hI => ?_)
                  obtain ⟨rfl, e9⟩ := hp9
                  rw [e9] at hI
                  clear hX9 e9
                  rw [en]
                  refine lv_istore (lv' := [(6, .int (nI e1)), (0, .ref x), (1, .int (nI lot)), (2, .long (lN day)), (4, .long (lN on))]) hx hb d_MO_reckon_20 hl (by decide) rfl (fun ls hl => ?_)
                  refine lv_aload_n hx hb d_MO_reckon_22 rfl (lv_at hl 1 rfl) ?_
                  refine lv_bipush (v := 20) hx hb d_MO_reckon_23 (by decide) ?_
                  refine f_put (C := "DutyRulesModel") (T := T_MO) (N := 40) (fs' := mo (va_up mf_193 14 (.int 20))) (v := .int 20) hx hb (fun w q => hT w (s_MO w q)) t_MO k_MO n_MO hown hK hI g_x (by decide) rfl 14 (by decide) (hT _ w_823) (fun _ q => q) rfl rfl rfl (by rw [mo_len]; decide) (mo_set _) d_MO_reckon_25 (fun H locs hI => ?_)
                  generalize emf_196 : va_up mf_193 14 (.int 20) = mf_196 at hI
                  have v_11 : mf_196 11 = .ref a11 := by rw [← emf_196, va_up_ne _ _ (by decide)]; exact v_11
                  have v_15 : mf_196 15 = .ref a15 := by rw [← emf_196, va_up_ne _ _ (by decide)]; exact v_15
                  have v_16 : mf_196 16 = .ref a16 := by rw [← emf_196, va_up_ne _ _ (by decide)]; exact v_16
                  have v_17 : mf_196 17 = .ref a17 := by rw [← emf_196, va_up_ne _ _ (by decide)]; exact v_17
                  have v_18 : mf_196 18 = .int 0 := by rw [← emf_196, va_up_ne _ _ (by decide)]; exact v_18
                  have v_19 : mf_196 19 = .long 0 := by rw [← emf_196, va_up_ne _ _ (by decide)]; exact v_19
                  have v_20 : mf_196 20 = .long 0 := by rw [← emf_196, va_up_ne _ _ (by decide)]; exact v_20
                  have v_14 : mf_196 14 = .int 20 := by rw [← emf_196, va_up_self]
                  generalize eh_197 : fU h_194 x (40, 0, .inr (8, mo mf_196)) = h_197 at hI
                  have hX := hX.set (e := .inr (8, mo mf_196)) g_x (by decide); rw [eh_197] at hX
                  have hF := hF.set (e := .inr (8, mo mf_196)) g_x (by decide); rw [eh_197] at hF
                  have g_a15 : h_197 a15 = some (56, 0, .inl ((G.2.1 0), 5, .inl (fun i => nI (sl i)))) := by rw [← eh_197]; exact fU_keep g_a15 (f_neR g_a15 g_x (by decide))
                  have g_a16 : h_197 a16 = some (57, 0, .inl ((G.2.1 0), 5, .inl (fun i => nI (sr i)))) := by rw [← eh_197]; exact fU_keep g_a16 (f_neR g_a16 g_x (by decide))
                  have g_a17 : h_197 a17 = some (58, 0, .inl ((G.2.1 1), 5, .inr (.inl (fun i => lN (sc i))))) := by rw [← eh_197]; exact fU_keep g_a17 (f_neR g_a17 g_x (by decide))
                  have g_a11 : h_197 a11 = some (52, 0, .inl ((G.2.1 1), 300, .inr (.inl (fun i => lN (fv i))))) := by rw [← eh_197]; exact fU_keep g_a11 (f_neR g_a11 g_x (by decide))
                  have hW9 : fF (inR [40]) h_194 h_197 := by rw [← eh_197]; exact fF.rf.set g_x (by decide)
                  have g_x : h_197 x = some (40, 0, .inr (8, mo mf_196)) := by rw [← eh_197]; exact fU_self _ _ _
                  have hFc := mFc.keep (mf' := mf_196) hFc (fun j _ _ => by rw [← emf_196]; exact va_up_ne _ _ (by omega)) hW9 (by decide)
                  have hEd := mEd.keep (mf' := mf_196) hEd (fun j _ _ => by rw [← emf_196]; exact va_up_ne _ _ (by omega)) hW9 (by decide)
                  have hm1 : ∀ j, j < 14 ∨ 20 < j → mf_196 j = mf j := fun j hj => by rw [← emf_196, va_up_ne _ _ (by omega)]; exact hm1 j hj
                  refine lv_iload hx hb d_MO_reckon_28 (lv_at hl 0 rfl) ?_
                  refine lv_iconst (v := (-1)) hx hb d_MO_reckon_30 (by decide) ?_
                  refine lv_icmp_ne (tgt := 36) hx hb d_MO_reckon_31 (by decide) (fun c_198 => ?_) (fun c_198 => absurd c_198 (n_m1 (by omega)))
                  refine lv_iconst (v := 0) hx hb d_MO_reckon_36 (by decide) ?_
                  refine lv_istore (lv' := [(7, .int 0), (6, .int (nI e1)), (0, .ref x), (1, .int (nI lot)), (2, .long (lN day)), (4, .long (lN on))]) hx hb d_MO_reckon_37 hl (by decide) rfl (fun ls hl => ?_)
                  refine lv_iload hx hb d_MO_reckon_39 (lv_at hl 0 rfl) ?_
                  refine lv_iconst (v := 3) hx hb d_MO_reckon_41 (by decide) ?_
                  refine lv_icmp_ge (tgt := 73) hx hb d_MO_reckon_42 (by decide) (fun c_199 => absurd c_199 (by decide)) (fun c_199 => ?_)
                  refine lv_aload_n hx hb d_MO_reckon_45 rfl (lv_at hl 2 rfl) ?_
                  refine lv_iload hx hb d_MO_reckon_46 (lv_at hl 0 rfl) ?_
                  refine f_put (C := "DutyRulesModel") (T := T_MO) (N := 40) (fs' := mo (va_up mf_196 14 (.int 0))) (v := .int 0) hx hb (fun w q => hT w (s_MO w q)) t_MO k_MO n_MO hown hK hI g_x (by decide) rfl 14 (by decide) (hT _ w_823) (fun _ q => q) rfl rfl rfl (by rw [mo_len]; decide) (mo_set _) d_MO_reckon_48 (fun H locs hI => ?_)
                  generalize emf_200 : va_up mf_196 14 (.int 0) = mf_200 at hI
                  have v_11 : mf_200 11 = .ref a11 := by rw [← emf_200, va_up_ne _ _ (by decide)]; exact v_11
                  have v_15 : mf_200 15 = .ref a15 := by rw [← emf_200, va_up_ne _ _ (by decide)]; exact v_15
                  have v_16 : mf_200 16 = .ref a16 := by rw [← emf_200, va_up_ne _ _ (by decide)]; exact v_16
                  have v_17 : mf_200 17 = .ref a17 := by rw [← emf_200, va_up_ne _ _ (by decide)]; exact v_17
                  have v_18 : mf_200 18 = .int 0 := by rw [← emf_200, va_up_ne _ _ (by decide)]; exact v_18
                  have v_19 : mf_200 19 = .long 0 := by rw [← emf_200, va_up_ne _ _ (by decide)]; exact v_19
                  have v_20 : mf_200 20 = .long 0 := by rw [← emf_200, va_up_ne _ _ (by decide)]; exact v_20
                  have v_14 : mf_200 14 = .int 0 := by rw [← emf_200, va_up_self]
                  generalize eh_201 : fU h_197 x (40, 0, .inr (8, mo mf_200)) = h_201 at hI
                  have hX := hX.set (e := .inr (8, mo mf_200)) g_x (by decide); rw [eh_201] at hX
                  have hF := hF.set (e := .inr (8, mo mf_200)) g_x (by decide); rw [eh_201] at hF
                  have g_a15 : h_201 a15 = some (56, 0, .inl ((G.2.1 0), 5, .inl (fun i => nI (sl i)))) := by rw [← eh_201]; exact fU_keep g_a15 (f_neR g_a15 g_x (by decide))
                  have g_a16 : h_201 a16 = some (57, 0, .inl ((G.2.1 0), 5, .inl (fun i => nI (sr i)))) := by rw [← eh_201]; exact fU_keep g_a16 (f_neR g_a16 g_x (by decide))
                  have g_a17 : h_201 a17 = some (58, 0, .inl ((G.2.1 1), 5, .inr (.inl (fun i => lN (sc i))))) := by rw [← eh_201]; exact fU_keep g_a17 (f_neR g_a17 g_x (by decide))
                  have g_a11 : h_201 a11 = some (52, 0, .inl ((G.2.1 1), 300, .inr (.inl (fun i => lN (fv i))))) := by rw [← eh_201]; exact fU_keep g_a11 (f_neR g_a11 g_x (by decide))
                  have hW9 : fF (inR [40]) h_197 h_201 := by rw [← eh_201]; exact fF.rf.set g_x (by decide)
                  have g_x : h_201 x = some (40, 0, .inr (8, mo mf_200)) := by rw [← eh_201]; exact fU_self _ _ _
                  have hFc := mFc.keep (mf' := mf_200) hFc (fun j _ _ => by rw [← emf_200]; exact va_up_ne _ _ (by omega)) hW9 (by decide)
                  have hEd := mEd.keep (mf' := mf_200) hEd (fun j _ _ => by rw [← emf_200]; exact va_up_ne _ _ (by omega)) hW9 (by decide)
                  have hm1 : ∀ j, j < 14 ∨ 20 < j → mf_200 j = mf j := fun j hj => by rw [← emf_200, va_up_ne _ _ (by omega)]; exact hm1 j hj
                  refine lv_aload_n hx hb d_MO_reckon_51 rfl (lv_at hl 2 rfl) ?_
                  refine lv_iload_n hx hb d_MO_reckon_52 rfl (lv_at hl 3 rfl) ?_
                  refine lv_iload hx hb d_MO_reckon_53 (lv_at hl 0 rfl) ?_
                  refine lv_lload_n hx hb d_MO_reckon_55 rfl (lv_at hl 4 rfl) ?_
                  refine lv_lload hx hb d_MO_reckon_56 (lv_at hl 5 rfl) ?_
                  refine f_calli hI (f_runV C hI (c_MO_holds l G h_201 _ x nf lot 0 day on fl fk fd fw fv mf_200 g_x hFc (by omega) (by omega) (by omega) (by omega)) gm_MO_holds w_1028 p_MO_holds w_1026 g_x rfl rfl rfl hl.1 rfl (Nat.le_of_ble_eq_true rfl) ⟨Nat.le_of_ble_eq_true rfl, Nat.le_of_ble_eq_true rfl⟩ d_MO_reckon_58 ⟨Nat.le_of_ble_eq_true rfl, Nat.le_of_ble_eq_true rfl⟩) (fun r_202 h9 H9 locs hp9 hX9 hz9 hI => ?_)
                  obtain ⟨rfl, e9⟩ := hp9
                  rw [e9] at hI
                  clear hX9 e9
                  rw [e0, bI_k (by omega)]
                  refine lv_iconst (v := (-1)) hx hb d_MO_reckon_61 (by decide) ?_
                  refine lv_icmp_ne (tgt := 67) hx hb d_MO_reckon_62 (by decide) (fun c_203 => ?_) (fun c_203 => absurd c_203 (n_m1 (by omega)))
                  refine lv_iinc (v := 1) (lv' := [(7, .int 1), (6, .int (nI e1)), (0, .ref x), (1, .int (nI lot)), (2, .long (lN day)), (4, .long (lN on))]) hx hb d_MO_reckon_67 hl (k := 0) rfl (by decide) (by decide) rfl (fun ls hl => ?_)
                  refine lv_goto (tgt := 39) hx hb d_MO_reckon_70 (by decide) ?_
                  refine lv_iload hx hb d_MO_reckon_39 (lv_at hl 0 rfl) ?_
                  refine lv_iconst (v := 3) hx hb d_MO_reckon_41 (by decide) ?_
                  refine lv_icmp_ge (tgt := 73) hx hb d_MO_reckon_42 (by decide) (fun c_204 => absurd c_204 (by decide)) (fun c_204 => ?_)
                  refine lv_aload_n hx hb d_MO_reckon_45 rfl (lv_at hl 2 rfl) ?_
                  refine lv_iload hx hb d_MO_reckon_46 (lv_at hl 0 rfl) ?_
                  refine f_put (C := "DutyRulesModel") (T := T_MO) (N := 40) (fs' := mo (va_up mf_200 14 (.int 1))) (v := .int 1) hx hb (fun w q => hT w (s_MO w q)) t_MO k_MO n_MO hown hK hI g_x (by decide) rfl 14 (by decide) (hT _ w_823) (fun _ q => q) rfl rfl rfl (by rw [mo_len]; decide) (mo_set _) d_MO_reckon_48 (fun H locs hI => ?_)
                  generalize emf_205 : va_up mf_200 14 (.int 1) = mf_205 at hI
                  have v_11 : mf_205 11 = .ref a11 := by rw [← emf_205, va_up_ne _ _ (by decide)]; exact v_11
                  have v_15 : mf_205 15 = .ref a15 := by rw [← emf_205, va_up_ne _ _ (by decide)]; exact v_15
                  have v_16 : mf_205 16 = .ref a16 := by rw [← emf_205, va_up_ne _ _ (by decide)]; exact v_16
                  have v_17 : mf_205 17 = .ref a17 := by rw [← emf_205, va_up_ne _ _ (by decide)]; exact v_17
                  have v_18 : mf_205 18 = .int 0 := by rw [← emf_205, va_up_ne _ _ (by decide)]; exact v_18
                  have v_19 : mf_205 19 = .long 0 := by rw [← emf_205, va_up_ne _ _ (by decide)]; exact v_19
                  have v_20 : mf_205 20 = .long 0 := by rw [← emf_205, va_up_ne _ _ (by decide)]; exact v_20
                  have v_14 : mf_205 14 = .int 1 := by rw [← emf_205, va_up_self]
                  generalize eh_206 : fU h_201 x (40, 0, .inr (8, mo mf_205)) = h_206 at hI
                  have hX := hX.set (e := .inr (8, mo mf_205)) g_x (by decide); rw [eh_206] at hX
                  have hF := hF.set (e := .inr (8, mo mf_205)) g_x (by decide); rw [eh_206] at hF
                  have g_a15 : h_206 a15 = some (56, 0, .inl ((G.2.1 0), 5, .inl (fun i => nI (sl i)))) := by rw [← eh_206]; exact fU_keep g_a15 (f_neR g_a15 g_x (by decide))
                  have g_a16 : h_206 a16 = some (57, 0, .inl ((G.2.1 0), 5, .inl (fun i => nI (sr i)))) := by rw [← eh_206]; exact fU_keep g_a16 (f_neR g_a16 g_x (by decide))
                  have g_a17 : h_206 a17 = some (58, 0, .inl ((G.2.1 1), 5, .inr (.inl (fun i => lN (sc i))))) := by rw [← eh_206]; exact fU_keep g_a17 (f_neR g_a17 g_x (by decide))
                  have g_a11 : h_206 a11 = some (52, 0, .inl ((G.2.1 1), 300, .inr (.inl (fun i => lN (fv i))))) := by rw [← eh_206]; exact fU_keep g_a11 (f_neR g_a11 g_x (by decide))
                  have hW9 : fF (inR [40]) h_201 h_206 := by rw [← eh_206]; exact fF.rf.set g_x (by decide)
                  have g_x : h_206 x = some (40, 0, .inr (8, mo mf_205)) := by rw [← eh_206]; exact fU_self _ _ _
                  have hFc := mFc.keep (mf' := mf_205) hFc (fun j _ _ => by rw [← emf_205]; exact va_up_ne _ _ (by omega)) hW9 (by decide)
                  have hEd := mEd.keep (mf' := mf_205) hEd (fun j _ _ => by rw [← emf_205]; exact va_up_ne _ _ (by omega)) hW9 (by decide)
                  have hm1 : ∀ j, j < 14 ∨ 20 < j → mf_205 j = mf j := fun j hj => by rw [← emf_205, va_up_ne _ _ (by omega)]; exact hm1 j hj
                  refine lv_aload_n hx hb d_MO_reckon_51 rfl (lv_at hl 2 rfl) ?_
                  refine lv_iload_n hx hb d_MO_reckon_52 rfl (lv_at hl 3 rfl) ?_
                  refine lv_iload hx hb d_MO_reckon_53 (lv_at hl 0 rfl) ?_
                  refine lv_lload_n hx hb d_MO_reckon_55 rfl (lv_at hl 4 rfl) ?_
                  refine lv_lload hx hb d_MO_reckon_56 (lv_at hl 5 rfl) ?_
                  refine f_calli hI (f_runV C hI (c_MO_holds l G h_206 _ x nf lot 1 day on fl fk fd fw fv mf_205 g_x hFc (by omega) (by omega) (by omega) (by omega)) gm_MO_holds w_1028 p_MO_holds w_1026 g_x rfl rfl rfl hl.1 rfl (Nat.le_of_ble_eq_true rfl) ⟨Nat.le_of_ble_eq_true rfl, Nat.le_of_ble_eq_true rfl⟩ d_MO_reckon_58 ⟨Nat.le_of_ble_eq_true rfl, Nat.le_of_ble_eq_true rfl⟩) (fun r_207 h9 H9 locs hp9 hX9 hz9 hI => ?_)
                  obtain ⟨rfl, e9⟩ := hp9
                  rw [e9] at hI
                  clear hX9 e9
                  rw [e1, bI_k (by omega)]
                  refine lv_iconst (v := (-1)) hx hb d_MO_reckon_61 (by decide) ?_
                  refine lv_icmp_ne (tgt := 67) hx hb d_MO_reckon_62 (by decide) (fun c_208 => ?_) (fun c_208 => absurd c_208 (n_m1 (by omega)))
                  refine lv_iinc (v := 2) (lv' := [(7, .int 2), (6, .int (nI e1)), (0, .ref x), (1, .int (nI lot)), (2, .long (lN day)), (4, .long (lN on))]) hx hb d_MO_reckon_67 hl (k := 0) rfl (by decide) (by decide) rfl (fun ls hl => ?_)
                  refine lv_goto (tgt := 39) hx hb d_MO_reckon_70 (by decide) ?_
                  refine lv_iload hx hb d_MO_reckon_39 (lv_at hl 0 rfl) ?_
                  refine lv_iconst (v := 3) hx hb d_MO_reckon_41 (by decide) ?_
                  refine lv_icmp_ge (tgt := 73) hx hb d_MO_reckon_42 (by decide) (fun c_209 => absurd c_209 (by decide)) (fun c_209 => ?_)
                  refine lv_aload_n hx hb d_MO_reckon_45 rfl (lv_at hl 2 rfl) ?_
                  refine lv_iload hx hb d_MO_reckon_46 (lv_at hl 0 rfl) ?_
                  refine f_put (C := "DutyRulesModel") (T := T_MO) (N := 40) (fs' := mo (va_up mf_205 14 (.int 2))) (v := .int 2) hx hb (fun w q => hT w (s_MO w q)) t_MO k_MO n_MO hown hK hI g_x (by decide) rfl 14 (by decide) (hT _ w_823) (fun _ q => q) rfl rfl rfl (by rw [mo_len]; decide) (mo_set _) d_MO_reckon_48 (fun H locs hI => ?_)
                  generalize emf_210 : va_up mf_205 14 (.int 2) = mf_210 at hI
                  have v_11 : mf_210 11 = .ref a11 := by rw [← emf_210, va_up_ne _ _ (by decide)]; exact v_11
                  have v_15 : mf_210 15 = .ref a15 := by rw [← emf_210, va_up_ne _ _ (by decide)]; exact v_15
                  have v_16 : mf_210 16 = .ref a16 := by rw [← emf_210, va_up_ne _ _ (by decide)]; exact v_16
                  have v_17 : mf_210 17 = .ref a17 := by rw [← emf_210, va_up_ne _ _ (by decide)]; exact v_17
                  have v_18 : mf_210 18 = .int 0 := by rw [← emf_210, va_up_ne _ _ (by decide)]; exact v_18
                  have v_19 : mf_210 19 = .long 0 := by rw [← emf_210, va_up_ne _ _ (by decide)]; exact v_19
                  have v_20 : mf_210 20 = .long 0 := by rw [← emf_210, va_up_ne _ _ (by decide)]; exact v_20
                  have v_14 : mf_210 14 = .int 2 := by rw [← emf_210, va_up_self]
                  generalize eh_211 : fU h_206 x (40, 0, .inr (8, mo mf_210)) = h_211 at hI
                  have hX := hX.set (e := .inr (8, mo mf_210)) g_x (by decide); rw [eh_211] at hX
                  have hF := hF.set (e := .inr (8, mo mf_210)) g_x (by decide); rw [eh_211] at hF
                  have g_a15 : h_211 a15 = some (56, 0, .inl ((G.2.1 0), 5, .inl (fun i => nI (sl i)))) := by rw [← eh_211]; exact fU_keep g_a15 (f_neR g_a15 g_x (by decide))
                  have g_a16 : h_211 a16 = some (57, 0, .inl ((G.2.1 0), 5, .inl (fun i => nI (sr i)))) := by rw [← eh_211]; exact fU_keep g_a16 (f_neR g_a16 g_x (by decide))
                  have g_a17 : h_211 a17 = some (58, 0, .inl ((G.2.1 1), 5, .inr (.inl (fun i => lN (sc i))))) := by rw [← eh_211]; exact fU_keep g_a17 (f_neR g_a17 g_x (by decide))
                  have g_a11 : h_211 a11 = some (52, 0, .inl ((G.2.1 1), 300, .inr (.inl (fun i => lN (fv i))))) := by rw [← eh_211]; exact fU_keep g_a11 (f_neR g_a11 g_x (by decide))
                  have hW9 : fF (inR [40]) h_206 h_211 := by rw [← eh_211]; exact fF.rf.set g_x (by decide)
                  have g_x : h_211 x = some (40, 0, .inr (8, mo mf_210)) := by rw [← eh_211]; exact fU_self _ _ _
                  have hFc := mFc.keep (mf' := mf_210) hFc (fun j _ _ => by rw [← emf_210]; exact va_up_ne _ _ (by omega)) hW9 (by decide)
                  have hEd := mEd.keep (mf' := mf_210) hEd (fun j _ _ => by rw [← emf_210]; exact va_up_ne _ _ (by omega)) hW9 (by decide)
                  have hm1 : ∀ j, j < 14 ∨ 20 < j → mf_210 j = mf j := fun j hj => by rw [← emf_210, va_up_ne _ _ (by omega)]; exact hm1 j hj
                  refine lv_aload_n hx hb d_MO_reckon_51 rfl (lv_at hl 2 rfl) ?_
                  refine lv_iload_n hx hb d_MO_reckon_52 rfl (lv_at hl 3 rfl) ?_
                  refine lv_iload hx hb d_MO_reckon_53 (lv_at hl 0 rfl) ?_
                  refine lv_lload_n hx hb d_MO_reckon_55 rfl (lv_at hl 4 rfl) ?_
                  refine lv_lload hx hb d_MO_reckon_56 (lv_at hl 5 rfl) ?_
                  refine f_calli hI (f_runV C hI (c_MO_holds l G h_211 _ x nf lot 2 day on fl fk fd fw fv mf_210 g_x hFc (by omega) (by omega) (by omega) (by omega)) gm_MO_holds w_1028 p_MO_holds w_1026 g_x rfl rfl rfl hl.1 rfl (Nat.le_of_ble_eq_true rfl) ⟨Nat.le_of_ble_eq_true rfl, Nat.le_of_ble_eq_true rfl⟩ d_MO_reckon_58 ⟨Nat.le_of_ble_eq_true rfl, Nat.le_of_ble_eq_true rfl⟩) (fun r_212 h9 H9 locs hp9 hX9 hz9 hI => ?_)
                  obtain ⟨rfl, e9⟩ := hp9
                  rw [e9] at hI
                  clear hX9 e9
                  rw [e2, bI_k (by omega)]
                  refine lv_iconst (v := (-1)) hx hb d_MO_reckon_61 (by decide) ?_
                  refine lv_icmp_ne (tgt := 67) hx hb d_MO_reckon_62 (by decide) (fun c_213 => ?_) (fun c_213 => absurd c_213 (n_m1 (by omega)))
                  refine lv_iinc (v := 3) (lv' := [(7, .int 3), (6, .int (nI e1)), (0, .ref x), (1, .int (nI lot)), (2, .long (lN day)), (4, .long (lN on))]) hx hb d_MO_reckon_67 hl (k := 0) rfl (by decide) (by decide) rfl (fun ls hl => ?_)
                  refine lv_goto (tgt := 39) hx hb d_MO_reckon_70 (by decide) ?_
                  refine lv_iload hx hb d_MO_reckon_39 (lv_at hl 0 rfl) ?_
                  refine lv_iconst (v := 3) hx hb d_MO_reckon_41 (by decide) ?_
                  refine lv_icmp_ge (tgt := 73) hx hb d_MO_reckon_42 (by decide) (fun c_214 => ?_) (fun c_214 => absurd (by decide) c_214)
                  refine lv_aload_n hx hb d_MO_reckon_73 rfl (lv_at hl 2 rfl) ?_
                  refine f_get (C := "DutyRulesModel") (T := T_MO) (N := 40) hx hb (fun w q => hT w (s_MO w q)) hown hK hI g_x rfl 11 (by decide) (hT _ w_820) (fun _ q => q) (mo_get (by decide) v_11) d_MO_reckon_74 ?_
                  refine lv_aload_n hx hb d_MO_reckon_77 rfl (lv_at hl 2 rfl) ?_
                  refine lv_iload_n hx hb d_MO_reckon_78 rfl (lv_at hl 3 rfl) ?_
                  refine lv_iconst (v := 0) hx hb d_MO_reckon_79 (by decide) ?_
                  refine lv_lload_n hx hb d_MO_reckon_80 rfl (lv_at hl 4 rfl) ?_
                  refine lv_lload hx hb d_MO_reckon_81 (lv_at hl 5 rfl) ?_
                  refine f_calli hI (f_runV C hI (c_MO_holds l G h_211 _ x nf lot 0 day on fl fk fd fw fv mf_210 g_x hFc (by omega) (by omega) (by omega) (by omega)) gm_MO_holds w_1028 p_MO_holds w_1026 g_x rfl rfl rfl hl.1 rfl (Nat.le_of_ble_eq_true rfl) ⟨Nat.le_of_ble_eq_true rfl, Nat.le_of_ble_eq_true rfl⟩ d_MO_reckon_83 ⟨Nat.le_of_ble_eq_true rfl, Nat.le_of_ble_eq_true rfl⟩) (fun r_215 h9 H9 locs hp9 hX9 hz9 hI => ?_)
                  obtain ⟨rfl, e9⟩ := hp9
                  rw [e9] at hI
                  clear hX9 e9
                  rw [e0, bI_k (by omega)]
                  refine f_laldn (k := i0) (v := (lN (fv i0))) hx hb hI g_a11 (fT.ofK hK (t0 := 1) rfl) (by omega) (by omega) rfl d_MO_reckon_86 ?_
                  refine lv_lstore (lv' := [(7, .long (lN (fv i0))), (6, .int (nI e1)), (0, .ref x), (1, .int (nI lot)), (2, .long (lN day)), (4, .long (lN on))]) hx hb d_MO_reckon_87 hl (by decide) rfl (fun ls hl => ?_)
                  refine lv_aload_n hx hb d_MO_reckon_89 rfl (lv_at hl 2 rfl) ?_
                  refine f_get (C := "DutyRulesModel") (T := T_MO) (N := 40) hx hb (fun w q => hT w (s_MO w q)) hown hK hI g_x rfl 11 (by decide) (hT _ w_820) (fun _ q => q) (mo_get (by decide) v_11) d_MO_reckon_90 ?_
                  refine lv_aload_n hx hb d_MO_reckon_93 rfl (lv_at hl 2 rfl) ?_
                  refine lv_iload_n hx hb d_MO_reckon_94 rfl (lv_at hl 3 rfl) ?_
                  refine lv_iconst (v := 1) hx hb d_MO_reckon_95 (by decide) ?_
                  refine lv_lload_n hx hb d_MO_reckon_96 rfl (lv_at hl 4 rfl) ?_
                  refine lv_lload hx hb d_MO_reckon_97 (lv_at hl 5 rfl) ?_
                  refine f_calli hI (f_runV C hI (c_MO_holds l G h_211 _ x nf lot 1 day on fl fk fd fw fv mf_210 g_x hFc (by omega) (by omega) (by omega) (by omega)) gm_MO_holds w_1028 p_MO_holds w_1026 g_x rfl rfl rfl hl.1 rfl (Nat.le_of_ble_eq_true rfl) ⟨Nat.le_of_ble_eq_true rfl, Nat.le_of_ble_eq_true rfl⟩ d_MO_reckon_99 ⟨Nat.le_of_ble_eq_true rfl, Nat.le_of_ble_eq_true rfl⟩) (fun r_216 h9 H9 locs hp9 hX9 hz9 hI => ?_)
                  obtain ⟨rfl, e9⟩ := hp9
                  rw [e9] at hI
                  clear hX9 e9
                  rw [e1, bI_k (by omega)]
                  refine f_laldn (k := i1) (v := (lN (fv i1))) hx hb hI g_a11 (fT.ofK hK (t0 := 1) rfl) (by omega) (by omega) rfl d_MO_reckon_102 ?_
                  refine lv_lstore (lv' := [(9, .long (lN (fv i1))), (7, .long (lN (fv i0))), (6, .int (nI e1)), (0, .ref x), (1, .int (nI lot)), (2, .long (lN day)), (4, .long (lN on))]) hx hb d_MO_reckon_103 hl (by decide) rfl (fun ls hl => ?_)
                  refine lv_aload_n hx hb d_MO_reckon_105 rfl (lv_at hl 3 rfl) ?_
                  refine f_get (C := "DutyRulesModel") (T := T_MO) (N := 40) hx hb (fun w q => hT w (s_MO w q)) hown hK hI g_x rfl 11 (by decide) (hT _ w_820) (fun _ q => q) (mo_get (by decide) v_11) d_MO_reckon_106 ?_
                  refine lv_aload_n hx hb d_MO_reckon_109 rfl (lv_at hl 3 rfl) ?_
                  refine lv_iload_n hx hb d_MO_reckon_110 rfl (lv_at hl 4 rfl) ?_
                  refine lv_iconst (v := 2) hx hb d_MO_reckon_111 (by decide) ?_
                  refine lv_lload_n hx hb d_MO_reckon_112 rfl (lv_at hl 5 rfl) ?_
                  refine lv_lload hx hb d_MO_reckon_113 (lv_at hl 6 rfl) ?_
                  refine f_calli hI (f_runV C hI (c_MO_holds l G h_211 _ x nf lot 2 day on fl fk fd fw fv mf_210 g_x hFc (by omega) (by omega) (by omega) (by omega)) gm_MO_holds w_1028 p_MO_holds w_1026 g_x rfl rfl rfl hl.1 rfl (Nat.le_of_ble_eq_true rfl) ⟨Nat.le_of_ble_eq_true rfl, Nat.le_of_ble_eq_true rfl⟩ d_MO_reckon_115 ⟨Nat.le_of_ble_eq_true rfl, Nat.le_of_ble_eq_true rfl⟩) (fun r_217 h9 H9 locs hp9 hX9 hz9 hI => ?_)
                  obtain ⟨rfl, e9⟩ := hp9
                  rw [e9] at hI
                  clear hX9 e9
                  rw [e2, bI_k (by omega)]
                  refine f_laldn (k := i2) (v := (lN (fv i2))) hx hb hI g_a11 (fT.ofK hK (t0 := 1) rfl) (by omega) (by omega) rfl d_MO_reckon_118 ?_
                  refine lv_lstore (lv' := [(11, .long (lN (fv i2))), (9, .long (lN (fv i1))), (7, .long (lN (fv i0))), (6, .int (nI e1)), (0, .ref x), (1, .int (nI lot)), (2, .long (lN day)), (4, .long (lN on))]) hx hb d_MO_reckon_119 hl (by decide) rfl (fun ls hl => ?_)
                  refine lv_aload_n hx hb d_MO_reckon_121 rfl (lv_at hl 4 rfl) ?_
                  refine lv_iload hx hb d_MO_reckon_122 (lv_at hl 3 rfl) ?_
                  refine lv_iconst (v := 0) hx hb d_MO_reckon_124 (by decide) ?_
                  refine lv_lload hx hb d_MO_reckon_125 (lv_at hl 2 rfl) ?_
                  refine lv_lload hx hb d_MO_reckon_127 (lv_at hl 1 rfl) ?_
                  refine f_calli hI (f_runV C hI (c_MO_find l G h_211 _ x e1 0 (fv i0) (fv i1) mf_210 g_x ne ef rr rm hEd (by omega) (by omega) (by omega) (by omega)) gm_MO_find w_1032 p_MO_find w_1030 g_x rfl rfl rfl hl.1 rfl (Nat.le_of_ble_eq_true rfl) ⟨Nat.le_of_ble_eq_true rfl, Nat.le_of_ble_eq_true rfl⟩ d_MO_reckon_129 ⟨Nat.le_of_ble_eq_true rfl, Nat.le_of_ble_eq_true rfl⟩) (fun r_218 h9 H9 locs hp9 hX9 hz9 hI => ?_)
                  obtain ⟨rfl, e9⟩ := hp9
                  rw [e9] at hI
                  clear hX9 e9
                  rw [eR]
                  refine lv_istore (lv' := [(13, .int (nI rate)), (11, .long (lN (fv i2))), (9, .long (lN (fv i1))), (7, .long (lN (fv i0))), (6, .int (nI e1)), (0, .ref x), (1, .int (nI lot)), (2, .long (lN day)), (4, .long (lN on))]) hx hb d_MO_reckon_132 hl (by decide) rfl (fun ls hl => ?_)
                  refine lv_aload_n hx hb d_MO_reckon_134 rfl (lv_at hl 5 rfl) ?_
                  refine lv_iload hx hb d_MO_reckon_135 (lv_at hl 4 rfl) ?_
                  refine lv_iconst (v := 1) hx hb d_MO_reckon_137 (by decide) ?_
                  refine lv_lload hx hb d_MO_reckon_138 (lv_at hl 3 rfl) ?_
                  refine lv_lconst (v := 0) hx hb d_MO_reckon_140 (by decide) ?_
                  refine f_calli hI (f_runV C hI (c_MO_find l G h_211 _ x e1 1 (fv i0) 0 mf_210 g_x ne ef rr rm hEd (by omega) (by omega) (by omega) (by omega)) gm_MO_find w_1032 p_MO_find w_1030 g_x rfl rfl rfl hl.1 rfl (Nat.le_of_ble_eq_true rfl) ⟨Nat.le_of_ble_eq_true rfl, Nat.le_of_ble_eq_true rfl⟩ d_MO_reckon_141 ⟨Nat.le_of_ble_eq_true rfl, Nat.le_of_ble_eq_true rfl⟩) (fun r_219 h9 H9 locs hp9 hX9 hz9 hI => ?_)
                  obtain ⟨rfl, e9⟩ := hp9
                  rw [e9] at hI
                  clear hX9 e9
                  rw [eS]
                  refine lv_istore (lv' := [(14, .int (nI r)), (13, .int (nI rate)), (11, .long (lN (fv i2))), (9, .long (lN (fv i1))), (7, .long (lN (fv i0))), (6, .int (nI e1)), (0, .ref x), (1, .int (nI lot)), (2, .long (lN day)), (4, .long (lN on))]) hx hb d_MO_reckon_144 hl (by decide) rfl (fun ls hl => ?_)
                  refine lv_aload_n hx hb d_MO_reckon_146 rfl (lv_at hl 6 rfl) ?_
                  refine lv_iload_n hx hb d_MO_reckon_147 rfl (lv_at hl 7 rfl) ?_
                  refine lv_iconst (v := 3) hx hb d_MO_reckon_148 (by decide) ?_
                  refine lv_lload_n hx hb d_MO_reckon_149 rfl (lv_at hl 8 rfl) ?_
                  refine lv_lload hx hb d_MO_reckon_150 (lv_at hl 9 rfl) ?_
                  refine f_calli hI (f_runV C hI (c_MO_holds l G h_211 _ x nf lot 3 day on fl fk fd fw fv mf_210 g_x hFc (by omega) (by omega) (by omega) (by omega)) gm_MO_holds w_1028 p_MO_holds w_1026 g_x rfl rfl rfl hl.1 rfl (Nat.le_of_ble_eq_true rfl) ⟨Nat.le_of_ble_eq_true rfl, Nat.le_of_ble_eq_true rfl⟩ d_MO_reckon_152 ⟨Nat.le_of_ble_eq_true rfl, Nat.le_of_ble_eq_true rfl⟩) (fun r_220 h9 H9 locs hp9 hX9 hz9 hI => ?_)
                  obtain ⟨rfl, e9⟩ := hp9
                  rw [e9] at hI
                  clear hX9 e9
                  rw [e3, bI_k (by omega)]
                  refine lv_istore (lv' := [(15, .int (nI i3)), (14, .int (nI r)), (13, .int (nI rate)), (11, .long (lN (fv i2))), (9, .long (lN (fv i1))), (7, .long (lN (fv i0))), (6, .int (nI e1)), (0, .ref x), (1, .int (nI lot)), (2, .long (lN day)), (4, .long (lN on))]) hx hb d_MO_reckon_155 hl (by decide) rfl (fun ls hl => ?_)
                  refine lv_aload_n hx hb d_MO_reckon_157 rfl (lv_at hl 7 rfl) ?_
                  refine lv_iload hx hb d_MO_reckon_158 (lv_at hl 2 rfl) ?_
                  refine lv_iconst (v := (-1)) hx hb d_MO_reckon_160 (by decide) ?_
                  refine lv_icmp_ne (tgt := 169) hx hb d_MO_reckon_161 (by decide) (fun c_221 => ?_) (fun c_221 => absurd c_221 (n_m1 (by omega)))
                  refine lv_iconst (v := 3) hx hb d_MO_reckon_169 (by decide) ?_
                  refine f_put (C := "DutyRulesModel") (T := T_MO) (N := 40) (fs' := mo (va_up mf_210 14 (.int 3))) (v := .int 3) hx hb (fun w q => hT w (s_MO w q)) t_MO k_MO n_MO hown hK hI g_x (by decide) rfl 14 (by decide) (hT _ w_823) (fun _ q => q) rfl rfl rfl (by rw [mo_len]; decide) (mo_set _) d_MO_reckon_170 (fun H locs hI => ?_)
                  generalize emf_222 : va_up mf_210 14 (.int 3) = mf_222 at hI
                  have v_11 : mf_222 11 = .ref a11 := by rw [← emf_222, va_up_ne _ _ (by decide)]; exact v_11
                  have v_15 : mf_222 15 = .ref a15 := by rw [← emf_222, va_up_ne _ _ (by decide)]; exact v_15
                  have v_16 : mf_222 16 = .ref a16 := by rw [← emf_222, va_up_ne _ _ (by decide)]; exact v_16
                  have v_17 : mf_222 17 = .ref a17 := by rw [← emf_222, va_up_ne _ _ (by decide)]; exact v_17
                  have v_18 : mf_222 18 = .int 0 := by rw [← emf_222, va_up_ne _ _ (by decide)]; exact v_18
                  have v_19 : mf_222 19 = .long 0 := by rw [← emf_222, va_up_ne _ _ (by decide)]; exact v_19
                  have v_20 : mf_222 20 = .long 0 := by rw [← emf_222, va_up_ne _ _ (by decide)]; exact v_20
                  have v_14 : mf_222 14 = .int 3 := by rw [← emf_222, va_up_self]
                  generalize eh_223 : fU h_211 x (40, 0, .inr (8, mo mf_222)) = h_223 at hI
                  have hX := hX.set (e := .inr (8, mo mf_222)) g_x (by decide); rw [eh_223] at hX
                  have hF := hF.set (e := .inr (8, mo mf_222)) g_x (by decide); rw [eh_223] at hF
                  have g_a15 : h_223 a15 = some (56, 0, .inl ((G.2.1 0), 5, .inl (fun i => nI (sl i)))) := by rw [← eh_223]; exact fU_keep g_a15 (f_neR g_a15 g_x (by decide))
                  have g_a16 : h_223 a16 = some (57, 0, .inl ((G.2.1 0), 5, .inl (fun i => nI (sr i)))) := by rw [← eh_223]; exact fU_keep g_a16 (f_neR g_a16 g_x (by decide))
                  have g_a17 : h_223 a17 = some (58, 0, .inl ((G.2.1 1), 5, .inr (.inl (fun i => lN (sc i))))) := by rw [← eh_223]; exact fU_keep g_a17 (f_neR g_a17 g_x (by decide))
                  have g_a11 : h_223 a11 = some (52, 0, .inl ((G.2.1 1), 300, .inr (.inl (fun i => lN (fv i))))) := by rw [← eh_223]; exact fU_keep g_a11 (f_neR g_a11 g_x (by decide))
                  have hW9 : fF (inR [40]) h_211 h_223 := by rw [← eh_223]; exact fF.rf.set g_x (by decide)
                  have g_x : h_223 x = some (40, 0, .inr (8, mo mf_222)) := by rw [← eh_223]; exact fU_self _ _ _
                  have hFc := mFc.keep (mf' := mf_222) hFc (fun j _ _ => by rw [← emf_222]; exact va_up_ne _ _ (by omega)) hW9 (by decide)
                  have hEd := mEd.keep (mf' := mf_222) hEd (fun j _ _ => by rw [← emf_222]; exact va_up_ne _ _ (by omega)) hW9 (by decide)
                  have hm1 : ∀ j, j < 14 ∨ 20 < j → mf_222 j = mf j := fun j hj => by rw [← emf_222, va_up_ne _ _ (by omega)]; exact hm1 j hj
                  refine lv_iload hx hb d_MO_reckon_173 (lv_at hl 2 rfl) ?_
                  refine lv_iconst (v := (-1)) hx hb d_MO_reckon_175 (by decide) ?_
                  refine lv_icmp_eq (tgt := 191) hx hb d_MO_reckon_176 (by decide) (fun c_224 => absurd c_224 (n_m1 (by omega))) (fun c_224 => ?_)
                  refine lv_iload hx hb d_MO_reckon_179 (lv_at hl 1 rfl) ?_
                  refine lv_iconst (v := (-1)) hx hb d_MO_reckon_181 (by decide) ?_
                  refine lv_icmp_eq (tgt := 193) hx hb d_MO_reckon_182 (by decide) (fun c_225 => absurd c_225 (n_m1 (by omega))) (fun c_225 => ?_)
                  refine lv_iload hx hb d_MO_reckon_185 (lv_at hl 0 rfl) ?_
                  refine lv_iconst (v := (-1)) hx hb d_MO_reckon_187 (by decide) ?_
                  refine lv_icmp_ne (tgt := 193) hx hb d_MO_reckon_188 (by decide) (fun c_226 => ?_) (fun c_226 => absurd c_226 (n_m1 (by omega)))
                  refine lv_aload_n hx hb d_MO_reckon_193 rfl (lv_at hl 7 rfl) ?_
                  refine lv_iconst (v := (-1)) hx hb d_MO_reckon_194 (by decide) ?_
                  refine f_put (C := "DutyRulesModel") (T := T_MO) (N := 40) (fs' := mo (va_up mf_222 14 (.int (-1)))) (v := .int (-1)) hx hb (fun w q => hT w (s_MO w q)) t_MO k_MO n_MO hown hK hI g_x (by decide) rfl 14 (by decide) (hT _ w_823) (fun _ q => q) rfl rfl rfl (by rw [mo_len]; decide) (mo_set _) d_MO_reckon_195 (fun H locs hI => ?_)
                  generalize emf_227 : va_up mf_222 14 (.int (-1)) = mf_227 at hI
                  have v_11 : mf_227 11 = .ref a11 := by rw [← emf_227, va_up_ne _ _ (by decide)]; exact v_11
                  have v_15 : mf_227 15 = .ref a15 := by rw [← emf_227, va_up_ne _ _ (by decide)]; exact v_15
                  have v_16 : mf_227 16 = .ref a16 := by rw [← emf_227, va_up_ne _ _ (by decide)]; exact v_16
                  have v_17 : mf_227 17 = .ref a17 := by rw [← emf_227, va_up_ne _ _ (by decide)]; exact v_17
                  have v_18 : mf_227 18 = .int 0 := by rw [← emf_227, va_up_ne _ _ (by decide)]; exact v_18
                  have v_19 : mf_227 19 = .long 0 := by rw [← emf_227, va_up_ne _ _ (by decide)]; exact v_19
                  have v_20 : mf_227 20 = .long 0 := by rw [← emf_227, va_up_ne _ _ (by decide)]; exact v_20
                  have v_14 : mf_227 14 = .int (-1) := by rw [← emf_227, va_up_self]
                  generalize eh_228 : fU h_223 x (40, 0, .inr (8, mo mf_227)) = h_228 at hI
                  have hX := hX.set (e := .inr (8, mo mf_227)) g_x (by decide); rw [eh_228] at hX
                  have hF := hF.set (e := .inr (8, mo mf_227)) g_x (by decide); rw [eh_228] at hF
                  have g_a15 : h_228 a15 = some (56, 0, .inl ((G.2.1 0), 5, .inl (fun i => nI (sl i)))) := by rw [← eh_228]; exact fU_keep g_a15 (f_neR g_a15 g_x (by decide))
                  have g_a16 : h_228 a16 = some (57, 0, .inl ((G.2.1 0), 5, .inl (fun i => nI (sr i)))) := by rw [← eh_228]; exact fU_keep g_a16 (f_neR g_a16 g_x (by decide))
                  have g_a17 : h_228 a17 = some (58, 0, .inl ((G.2.1 1), 5, .inr (.inl (fun i => lN (sc i))))) := by rw [← eh_228]; exact fU_keep g_a17 (f_neR g_a17 g_x (by decide))
                  have g_a11 : h_228 a11 = some (52, 0, .inl ((G.2.1 1), 300, .inr (.inl (fun i => lN (fv i))))) := by rw [← eh_228]; exact fU_keep g_a11 (f_neR g_a11 g_x (by decide))
                  have hW9 : fF (inR [40]) h_223 h_228 := by rw [← eh_228]; exact fF.rf.set g_x (by decide)
                  have g_x : h_228 x = some (40, 0, .inr (8, mo mf_227)) := by rw [← eh_228]; exact fU_self _ _ _
                  have hFc := mFc.keep (mf' := mf_227) hFc (fun j _ _ => by rw [← emf_227]; exact va_up_ne _ _ (by omega)) hW9 (by decide)
                  have hEd := mEd.keep (mf' := mf_227) hEd (fun j _ _ => by rw [← emf_227]; exact va_up_ne _ _ (by omega)) hW9 (by decide)
                  have hm1 : ∀ j, j < 14 ∨ 20 < j → mf_227 j = mf j := fun j hj => by rw [← emf_227, va_up_ne _ _ (by omega)]; exact hm1 j hj
                  refine lv_aload_n hx hb d_MO_reckon_198 rfl (lv_at hl 7 rfl) ?_
                  refine lv_iload hx hb d_MO_reckon_199 (lv_at hl 6 rfl) ?_
                  refine lv_iload hx hb d_MO_reckon_201 (lv_at hl 2 rfl) ?_
                  refine lv_iconst (v := 4) hx hb d_MO_reckon_203 (by decide) ?_
                  refine f_calli hI (f_runV C hI (c_MO_value l G h_228 _ x e1 rate 4 mf_227 g_x ne ef rr rm hEd (by omega) (by omega) (by omega)) gm_MO_value w_1036 p_MO_value w_1034 g_x rfl rfl rfl hl.1 rfl (Nat.le_of_ble_eq_true rfl) ⟨Nat.le_of_ble_eq_true rfl, Nat.le_of_ble_eq_true rfl⟩ d_MO_reckon_204 ⟨Nat.le_of_ble_eq_true rfl, Nat.le_of_ble_eq_true rfl⟩) (fun r_229 h9 H9 locs hp9 hX9 hz9 hI => ?_)
                  obtain ⟨rfl, e9⟩ := hp9
                  rw [e9] at hI
                  clear hX9 e9
                  refine lv_i2l (v := lN (rr ((e1 * 40 + rate) * 5 + 4))) hx hb d_MO_reckon_207 (n_i2l (by have := brr ((e1 * 40 + rate) * 5 + 4); omega)) ?_
                  refine lv_lstore (lv' := [(16, .long (lN (rr ((e1 * 40 + rate) * 5 + 4)))), (15, .int (nI i3)), (14, .int (nI r)), (13, .int (nI rate)), (11, .long (lN (fv i2))), (9, .long (lN (fv i1))), (7, .long (lN (fv i0))), (6, .int (nI e1)), (0, .ref x), (1, .int (nI lot)), (2, .long (lN day)), (4, .long (lN on))]) hx hb d_MO_reckon_208 hl (by decide) rfl (fun ls hl => ?_)
                  refine lv_aload_n hx hb d_MO_reckon_210 rfl (lv_at hl 8 rfl) ?_
                  refine lv_lload hx hb d_MO_reckon_211 (lv_at hl 4 rfl) ?_
                  refine lv_lload hx hb d_MO_reckon_213 (lv_at hl 0 rfl) ?_
                  refine lv_lmul hx hb d_MO_reckon_215 ?_
                  refine f_asl (lN_mul (fv i2) (rr ((e1 * 40 + rate) * 5 + 4))) ?_
                  refine lv_ldc2 (v := 1000000) hx hb hown (hT _ w_1008) d_MO_reckon_216 ?_
                  refine lv_lmul hx hb d_MO_reckon_219 ?_
                  refine f_asl (lN_mul ((fv i2) * (rr ((e1 * 40 + rate) * 5 + 4))) 1000000) ?_
                  refine f_put (C := "DutyRulesModel") (T := T_MO) (N := 40) (fs' := mo (va_up mf_227 20 (.long (lN (((fv i2) * (rr ((e1 * 40 + rate) * 5 + 4))) * 1000000))))) (v := .long (lN (((fv i2) * (rr ((e1 * 40 + rate) * 5 + 4))) * 1000000))) hx hb (fun w q => hT w (s_MO w q)) t_MO k_MO n_MO hown hK hI g_x (by decide) rfl 20 (by decide) (hT _ w_829) (fun _ q => q) rfl rfl rfl (by rw [mo_len]; decide) (mo_set _) d_MO_reckon_220 (fun H locs hI => ?_)
                  generalize emf_230 : va_up mf_227 20 (.long (lN (((fv i2) * (rr ((e1 * 40 + rate) * 5 + 4))) * 1000000))) = mf_230 at hI
                  have v_11 : mf_230 11 = .ref a11 := by rw [← emf_230, va_up_ne _ _ (by decide)]; exact v_11
                  have v_14 : mf_230 14 = .int (-1) := by rw [← emf_230, va_up_ne _ _ (by decide)]; exact v_14
                  have v_15 : mf_230 15 = .ref a15 := by rw [← emf_230, va_up_ne _ _ (by decide)]; exact v_15
                  have v_16 : mf_230 16 = .ref a16 := by rw [← emf_230, va_up_ne _ _ (by decide)]; exact v_16
                  have v_17 : mf_230 17 = .ref a17 := by rw [← emf_230, va_up_ne _ _ (by decide)]; exact v_17
                  have v_18 : mf_230 18 = .int 0 := by rw [← emf_230, va_up_ne _ _ (by decide)]; exact v_18
                  have v_19 : mf_230 19 = .long 0 := by rw [← emf_230, va_up_ne _ _ (by decide)]; exact v_19
                  have v_20 : mf_230 20 = .long (lN (((fv i2) * (rr ((e1 * 40 + rate) * 5 + 4))) * 1000000)) := by rw [← emf_230, va_up_self]
                  generalize eh_231 : fU h_228 x (40, 0, .inr (8, mo mf_230)) = h_231 at hI
                  have hX := hX.set (e := .inr (8, mo mf_230)) g_x (by decide); rw [eh_231] at hX
                  have hF := hF.set (e := .inr (8, mo mf_230)) g_x (by decide); rw [eh_231] at hF
                  have g_a15 : h_231 a15 = some (56, 0, .inl ((G.2.1 0), 5, .inl (fun i => nI (sl i)))) := by rw [← eh_231]; exact fU_keep g_a15 (f_neR g_a15 g_x (by decide))
                  have g_a16 : h_231 a16 = some (57, 0, .inl ((G.2.1 0), 5, .inl (fun i => nI (sr i)))) := by rw [← eh_231]; exact fU_keep g_a16 (f_neR g_a16 g_x (by decide))
                  have g_a17 : h_231 a17 = some (58, 0, .inl ((G.2.1 1), 5, .inr (.inl (fun i => lN (sc i))))) := by rw [← eh_231]; exact fU_keep g_a17 (f_neR g_a17 g_x (by decide))
                  have g_a11 : h_231 a11 = some (52, 0, .inl ((G.2.1 1), 300, .inr (.inl (fun i => lN (fv i))))) := by rw [← eh_231]; exact fU_keep g_a11 (f_neR g_a11 g_x (by decide))
                  have hW9 : fF (inR [40]) h_228 h_231 := by rw [← eh_231]; exact fF.rf.set g_x (by decide)
                  have g_x : h_231 x = some (40, 0, .inr (8, mo mf_230)) := by rw [← eh_231]; exact fU_self _ _ _
                  have hFc := mFc.keep (mf' := mf_230) hFc (fun j _ _ => by rw [← emf_230]; exact va_up_ne _ _ (by omega)) hW9 (by decide)
                  have hEd := mEd.keep (mf' := mf_230) hEd (fun j _ _ => by rw [← emf_230]; exact va_up_ne _ _ (by omega)) hW9 (by decide)
                  have hm1 : ∀ j, j < 14 ∨ 20 < j → mf_230 j = mf j := fun j hj => by rw [← emf_230, va_up_ne _ _ (by omega)]; exact hm1 j hj
                  refine lv_aload_n hx hb d_MO_reckon_223 rfl (lv_at hl 8 rfl) ?_
                  refine lv_iconst (v := 0) hx hb d_MO_reckon_224 (by decide) ?_
                  refine lv_iload hx hb d_MO_reckon_225 (lv_at hl 3 rfl) ?_
                  have hz8 := hI.2.2.2.1
                  refine f_callv hI (f_runV C hI (c_MO_step l G h_231 _ x 0 rate mf_230 g_x _ _ sl sr sc _ _ ⟨a15, a16, a17, ⟨v_14, v_15, v_16, v_17, v_18, v_19, v_20⟩, ⟨g_a15, g_a16, g_a17⟩⟩ (by omega) (by omega)) gm_MO_step w_1040 p_MO_step w_1038 g_x rfl rfl rfl hl.1 rfl (Nat.le_of_ble_eq_true rfl) ⟨Nat.le_of_ble_eq_true rfl, Nat.le_of_ble_eq_true rfl⟩ d_MO_reckon_227 ⟨Nat.le_of_ble_eq_true rfl, Nat.le_of_ble_eq_true rfl⟩) (fun h9 H9 locs hp9 hX9 hz9 hI => ?_)
                  obtain ⟨mf_233, g_x, hm9, hSt, hF9⟩ := hp9
                  have hFc := hFc.keep (fun j _ _ => hm9 j (by omega)) hF9 (by decide)
                  have hEd := hEd.keep (fun j _ _ => hm9 j (by omega)) hF9 (by decide)
                  have hm1 : ∀ j, j < 14 ∨ 20 < j → mf_233 j = mf j := fun j hj => (hm9 j (by omega)).trans (hm1 j hj)
                  have hF := hF.tr hF9
                  have hX := fX.tr (by omega) hX hX9
                  refine JB e1 (fv i0) (fv i2) rate (rr ((e1 * 40 + rate) * 5 + 4)) be hg0 hg2 hrt.2.2 _ mf_233 (sA (fv i2) (rr ((e1 * 40 + rate) * 5 + 4)) rate) _ _ g_x hFc hEd ?_ hm1 hF hX hI hrk ⟨Nat.le_refl 1, rfl, rfl, h3⟩ ls ?_
                  · exact ⟨va_up sl 0 0, va_up sr 0 rate, va_up sc 0 ((((fv i2) * (rr ((e1 * 40 + rate) * 5 + 4))) * 1000000) / CT), hSt, mSd.add (L := []) (fun i q hi => by simp at hi) 0 rate _⟩
                  rw [eS, e3, bI_k (by omega)]
                  exact lv_sub hl [8, 9, 10, 11, 7, 6, 4, 3, 2, 1, 0] rfl
