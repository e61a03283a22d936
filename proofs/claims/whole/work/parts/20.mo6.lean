set_option maxHeartbeats 4000000 in
set_option maxRecDepth 100000 in
/-- MO_edition  -/
theorem c_MO_edition_ok (l : Launch) (G : gG) (h : fH) (sz : Nat) (x d : Nat) (mf : Nat → Value) (g_x : h x = some (40, 0, .inr (8, mo mf))) (ne : Nat) (ef rr rm : Nat → Nat) (hEd : mEd G h mf ne ef rr rm) (bd : d ≤ 100000) (bne2 : ne < 10) : cM l y_MO_edition b_MO_edition 4 (some .int) { frames := 0, cells := 0, slots := 0, locals := 0 } G [.ref x, .long (lN d)] h sz (cQi G h sz (fun r h' => r = nI ne ∧ ∃ mf', h' x = some (40, 0, .inr (8, mo mf')) ∧ (∀ j, j ≠ 6 → mf' j = mf j) ∧ mEd G h' mf' (ne + 1) (va_up ef ne d) (cp rr ne 200) (va_up rm ne (rm 10)) ∧ fF (inR [40, 44, 45, 46]) h h')) := by
  refine f_start (by decide) (Nat.le_of_ble_eq_true rfl) ?_
  intro p e s m below meth c ls C hr hsz hI hl
  obtain ⟨hx, hb, hml, hown, hnm, hlk, hT, hG, hZ⟩ := id C
  have hK := hG.1
  have hX : fX h sz h := fX.rf
  have hl : lv_has ls 4 [(0, .ref x), (1, .long (lN d))] := hl
  obtain ⟨a3, a4, a5, ⟨v_3, v_4, v_5, v_6⟩, ⟨g_a3, g_a4, g_a5⟩, bne, brm, bef, brr, brk⟩ := hEd
  have hz0 := hI.2.2.2.1
  have bcp : ∀ n i, cp rr ne n i ≤ 100000000 := fun n i => cp_le brr i
  have LOOP : ∀ (k n : Nat), n + k = 200 → ∀ (h1 : fH) (H : Heap) (locs : List Loc), h1 x = some (40, 0, .inr (8, mo mf)) → h1 a3 = some (44, 0, .inl (G.2.1 0, 2200, .inl (fun i => nI (cp rr ne n i)))) → h1 a4 = some (45, 0, .inl (G.2.1 0, 11, .inl (fun i => nI (rm i)))) → h1 a5 = some (46, 0, .inl (G.2.1 1, 11, .inr (.inl (fun i => lN (ef i))))) → fF (inR [40, 44, 45, 46]) h h1 → fX h sz h1 → fI G.1 g_cl (fA h sz) s.heap h1 H locs → ∀ ls : Array Slot, lv_has ls 4 [(0, .ref x), (1, .long (lN d)), (3, .int (nI n))] → W p l e { frames := 0, cells := 0, slots := 0, locals := 0 } s m ([.ref x, .long (lN d)] : List Value).toArray below meth c H locs 0 0 (MQ below (cQi G h sz (fun r h' => r = nI ne ∧ ∃ mf', h' x = some (40, 0, .inr (8, mo mf')) ∧ (∀ j, j ≠ 6 → mf' j = mf j) ∧ mEd G h' mf' (ne + 1) (va_up ef ne d) (cp rr ne 200) (va_up rm ne (rm 10)) ∧ fF (inR [40, 44, 45, 46]) h h')) ([.ref x, .long (lN d)] : List Value).toArray s 0 0 (fA h sz)) (F0 m 30 ls []) := by
    intro k
    induction k with
    | zero =>
      intro n hn h1 H locs g_x g_a3 g_a4 g_a5 hF hX hI ls hl
      have hn2 : n = 200 := by omega
      subst hn2
      have hok : ∀ e n, e < 11 → n < va_up rm ne (rm 10) e → okR (cp rr ne 200 ((e * 40 + n) * 5)) (cp rr ne 200 ((e * 40 + n) * 5 + 1)) (cp rr ne 200 ((e * 40 + n) * 5 + 2)) (cp rr ne 200 ((e * 40 + n) * 5 + 3)) (cp rr ne 200 ((e * 40 + n) * 5 + 4)) := by
        intro e n he hn3
        have hn4 : n < 40 := Nat.lt_of_lt_of_le hn3 (up_le brm (brm 10) e)
        have c0 := cp_at (rr := rr) (ne := ne) (e := e) (n := n) (j := 0) he hn4 (by decide)
        rw [Nat.add_zero] at c0
        rw [c0, cp_at he hn4 (by decide), cp_at he hn4 (by decide), cp_at he hn4 (by decide), cp_at he hn4 (by decide)]
        by_cases hen : e = ne
        · subst hen
          rw [va_up_self] at hn3
          simp only [if_pos]
          exact brk 10 n (by decide) hn3
        · rw [va_up_ne _ _ hen] at hn3
          simp only [if_neg hen]
          exact brk e n he hn3
      refine lv_iload_n hx hb d_MO_edition_30 rfl (lv_at hl 2 rfl) ?_
      refine lv_sipush (v := 200) hx hb d_MO_edition_31 (by decide) ?_
      refine lv_icmp_ge (tgt := 69) hx hb d_MO_edition_34 (by decide) (fun c_1 => ?_) (fun c_1 => absurd (by decide) c_1)
      refine lv_aload_n hx hb d_MO_edition_69 rfl (lv_at hl 0 rfl) ?_
      refine f_get (C := "DutyRulesModel") (T := T_MO) (N := 40) hx hb (fun w q => hT w (s_MO w q)) hown hK hI g_x rfl 4 (by decide) (hT _ w_813) (fun _ q => q) (mo_get (by decide) v_4) d_MO_edition_70 ?_
      refine lv_aload_n hx hb d_MO_edition_73 rfl (lv_at hl 0 rfl) ?_
      refine f_get (C := "DutyRulesModel") (T := T_MO) (N := 40) hx hb (fun w q => hT w (s_MO w q)) hown hK hI g_x rfl 6 (by decide) (hT _ w_815) (fun _ q => q) (mo_get (by decide) v_6) d_MO_edition_74 ?_
      refine lv_aload_n hx hb d_MO_edition_77 rfl (lv_at hl 0 rfl) ?_
      refine f_get (C := "DutyRulesModel") (T := T_MO) (N := 40) hx hb (fun w q => hT w (s_MO w q)) hown hK hI g_x rfl 4 (by decide) (hT _ w_813) (fun _ q => q) (mo_get (by decide) v_4) d_MO_edition_78 ?_
      refine lv_bipush (v := 10) hx hb d_MO_edition_81 (by decide) ?_
      refine f_ialdn (k := 10) (v := (nI (rm 10))) hx hb hI g_a4 (fT.ofK hK (t0 := 0) rfl) (by decide) (by omega) rfl d_MO_edition_83 ?_
      refine f_iastn (k := ne) (f' := (fun i => nI (va_up rm ne (rm 10) i))) hx hb hI g_a4 (by decide) (fT.ofK hK (t0 := 0) rfl) (by omega) (by omega) (up_i rm ne (rm 10)) d_MO_edition_84 (fun H locs hI => ?_)
      generalize eh_2 : fU h1 a4 (45, 0, .inl ((G.2.1 0), 11, .inl (fun i => nI (va_up rm ne (rm 10) i)))) = h_2 at hI
      have hX := hX.set (e := .inl ((G.2.1 0), 11, .inl (fun i => nI (va_up rm ne (rm 10) i)))) g_a4 (by decide); rw [eh_2] at hX
      have hF := hF.set (e := .inl ((G.2.1 0), 11, .inl (fun i => nI (va_up rm ne (rm 10) i)))) g_a4 (by decide); rw [eh_2] at hF
      have g_a3 : h_2 a3 = some (44, 0, .inl ((G.2.1 0), 2200, .inl (fun i => nI (cp rr ne 200 i)))) := (congrFun eh_2 a3).symm.trans (fU_keep g_a3 (f_neR g_a3 g_a4 (by decide)))
      have g_a5 : h_2 a5 = some (46, 0, .inl ((G.2.1 1), 11, .inr (.inl (fun i => lN (ef i))))) := (congrFun eh_2 a5).symm.trans (fU_keep g_a5 (f_neR g_a5 g_a4 (by decide)))
      have g_x : h_2 x = some (40, 0, .inr (8, mo mf)) := (congrFun eh_2 x).symm.trans (fU_keep g_x (f_neR g_x g_a4 (by decide)))
      have g_a4 : h_2 a4 = some (45, 0, .inl ((G.2.1 0), 11, .inl (fun i => nI (va_up rm ne (rm 10) i)))) := (congrFun eh_2 a4).symm.trans (fU_self _ _ _)
      refine lv_aload_n hx hb d_MO_edition_85 rfl (lv_at hl 0 rfl) ?_
      refine f_get (C := "DutyRulesModel") (T := T_MO) (N := 40) hx hb (fun w q => hT w (s_MO w q)) hown hK hI g_x rfl 5 (by decide) (hT _ w_814) (fun _ q => q) (mo_get (by decide) v_5) d_MO_edition_86 ?_
      refine lv_aload_n hx hb d_MO_edition_89 rfl (lv_at hl 0 rfl) ?_
      refine f_get (C := "DutyRulesModel") (T := T_MO) (N := 40) hx hb (fun w q => hT w (s_MO w q)) hown hK hI g_x rfl 6 (by decide) (hT _ w_815) (fun _ q => q) (mo_get (by decide) v_6) d_MO_edition_90 ?_
      refine lv_lload_n hx hb d_MO_edition_93 rfl (lv_at hl 1 rfl) ?_
      refine f_lastn (k := ne) (f' := (fun i => lN (va_up ef ne d i))) hx hb hI g_a5 (by decide) (fT.ofK hK (t0 := 1) rfl) (by omega) (by omega) (up_l ef ne d) d_MO_edition_94 (fun H locs hI => ?_)
      generalize eh_3 : fU h_2 a5 (46, 0, .inl ((G.2.1 1), 11, .inr (.inl (fun i => lN (va_up ef ne d i))))) = h_3 at hI
      have hX := hX.set (e := .inl ((G.2.1 1), 11, .inr (.inl (fun i => lN (va_up ef ne d i))))) g_a5 (by decide); rw [eh_3] at hX
      have hF := hF.set (e := .inl ((G.2.1 1), 11, .inr (.inl (fun i => lN (va_up ef ne d i))))) g_a5 (by decide); rw [eh_3] at hF
      have g_a3 : h_3 a3 = some (44, 0, .inl ((G.2.1 0), 2200, .inl (fun i => nI (cp rr ne 200 i)))) := (congrFun eh_3 a3).symm.trans (fU_keep g_a3 (f_neR g_a3 g_a5 (by decide)))
      have g_a4 : h_3 a4 = some (45, 0, .inl ((G.2.1 0), 11, .inl (fun i => nI (va_up rm ne (rm 10) i)))) := (congrFun eh_3 a4).symm.trans (fU_keep g_a4 (f_neR g_a4 g_a5 (by decide)))
      have g_x : h_3 x = some (40, 0, .inr (8, mo mf)) := (congrFun eh_3 x).symm.trans (fU_keep g_x (f_neR g_x g_a5 (by decide)))
      have g_a5 : h_3 a5 = some (46, 0, .inl ((G.2.1 1), 11, .inr (.inl (fun i => lN (va_up ef ne d i))))) := (congrFun eh_3 a5).symm.trans (fU_self _ _ _)
      refine lv_aload_n hx hb d_MO_edition_95 rfl (lv_at hl 0 rfl) ?_
      refine lv_dup hx hb d_MO_edition_96 rfl ?_
      refine f_get (C := "DutyRulesModel") (T := T_MO) (N := 40) hx hb (fun w q => hT w (s_MO w q)) hown hK hI g_x rfl 6 (by decide) (hT _ w_815) (fun _ q => q) (mo_get (by decide) v_6) d_MO_edition_97 ?_
      refine lv_iconst (v := 1) hx hb d_MO_edition_100 (by decide) ?_
      refine lv_iadd hx hb d_MO_edition_101 ?_
      refine f_asi (nI_add ne 1) ?_
      refine f_put (C := "DutyRulesModel") (T := T_MO) (N := 40) (fs' := mo (va_up mf 6 (.int (nI (ne + 1))))) (v := .int (nI (ne + 1))) hx hb (fun w q => hT w (s_MO w q)) t_MO k_MO n_MO hown hK hI g_x (by decide) rfl 6 (by decide) (hT _ w_815) (fun _ q => q) rfl rfl rfl (by rw [mo_len]; decide) (mo_set _) d_MO_edition_102 (fun H locs hI => ?_)
      generalize emf_4 : va_up mf 6 (.int (nI (ne + 1))) = mf_4 at hI
      have v_3 : mf_4 3 = .ref a3 := (congrFun emf_4 3).symm.trans ((va_up_ne _ _ (by decide)).trans v_3)
      have v_4 : mf_4 4 = .ref a4 := (congrFun emf_4 4).symm.trans ((va_up_ne _ _ (by decide)).trans v_4)
      have v_5 : mf_4 5 = .ref a5 := (congrFun emf_4 5).symm.trans ((va_up_ne _ _ (by decide)).trans v_5)
      have v_6 : mf_4 6 = .int (nI (ne + 1)) := (congrFun emf_4 6).symm.trans (va_up_self _ _ _)
      generalize eh_5 : fU h_3 x (40, 0, .inr (8, mo mf_4)) = h_5 at hI
      have hX := hX.set (e := .inr (8, mo mf_4)) g_x (by decide); rw [eh_5] at hX
      have hF := hF.set (e := .inr (8, mo mf_4)) g_x (by decide); rw [eh_5] at hF
      have g_a3 : h_5 a3 = some (44, 0, .inl ((G.2.1 0), 2200, .inl (fun i => nI (cp rr ne 200 i)))) := (congrFun eh_5 a3).symm.trans (fU_keep g_a3 (f_neR g_a3 g_x (by decide)))
      have g_a4 : h_5 a4 = some (45, 0, .inl ((G.2.1 0), 11, .inl (fun i => nI (va_up rm ne (rm 10) i)))) := (congrFun eh_5 a4).symm.trans (fU_keep g_a4 (f_neR g_a4 g_x (by decide)))
      have g_a5 : h_5 a5 = some (46, 0, .inl ((G.2.1 1), 11, .inr (.inl (fun i => lN (va_up ef ne d i))))) := (congrFun eh_5 a5).symm.trans (fU_keep g_a5 (f_neR g_a5 g_x (by decide)))
      have g_x : h_5 x = some (40, 0, .inr (8, mo mf_4)) := (congrFun eh_5 x).symm.trans (fU_self _ _ _)
      refine lv_aload_n hx hb d_MO_edition_105 rfl (lv_at hl 0 rfl) ?_
      refine f_get (C := "DutyRulesModel") (T := T_MO) (N := 40) hx hb (fun w q => hT w (s_MO w q)) hown hK hI g_x rfl 6 (by decide) (hT _ w_815) (fun _ q => q) (mo_get (by decide) v_6) d_MO_edition_106 ?_
      refine lv_iconst (v := 1) hx hb d_MO_edition_109 (by decide) ?_
      refine lv_isub hx hb d_MO_edition_110 ?_
      refine f_asi (pk_sub (a := (ne + 1)) (b := 1) (by omega)) ?_
      exact f_iret C hr hI ⟨rfl, mf_4, g_x, fun j hj => (congrFun emf_4 j).symm.trans (va_up_ne _ _ hj), ⟨a3, a4, a5, ⟨v_3, v_4, v_5, v_6⟩, ⟨g_a3, g_a4, g_a5⟩, by omega, up_le brm (brm 10), up_le bef bd, bcp 200, hok⟩, hF⟩ hX (Nat.le_refl _) (Nat.le_refl _) d_MO_edition_111
    | succ k ih =>
      intro n hn h1 H locs g_x g_a3 g_a4 g_a5 hF hX hI ls hl
      have ih : ∀ n : Nat, n + k = 200 → ∀ (h1 : fH) (H : Heap) (locs : List Loc), h1 x = some (40, 0, .inr (8, mo mf)) → h1 a3 = some (44, 0, .inl (G.2.1 0, 2200, .inl (fun i => nI (cp rr ne n i)))) → h1 a4 = some (45, 0, .inl (G.2.1 0, 11, .inl (fun i => nI (rm i)))) → h1 a5 = some (46, 0, .inl (G.2.1 1, 11, .inr (.inl (fun i => lN (ef i))))) → fF (inR [40, 44, 45, 46]) h h1 → fX h sz h1 → fI G.1 g_cl (fA h sz) s.heap h1 H locs → ∀ ls : Array Slot, lv_has ls 4 [(0, .ref x), (1, .long (lN d)), (3, .int (nI n))] → W p l e { frames := 0, cells := 0, slots := 0, locals := 0 } s m ([.ref x, .long (lN d)] : List Value).toArray below meth c H locs 0 0 (MQ below (cQi G h sz (fun r h' => r = nI ne ∧ ∃ mf', h' x = some (40, 0, .inr (8, mo mf')) ∧ (∀ j, j ≠ 6 → mf' j = mf j) ∧ mEd G h' mf' (ne + 1) (va_up ef ne d) (cp rr ne 200) (va_up rm ne (rm 10)) ∧ fF (inR [40, 44, 45, 46]) h h')) ([.ref x, .long (lN d)] : List Value).toArray s 0 0 (fA h sz)) (F0 m 30 ls []) := ih
      have hn2 : n < 200 := by omega
      refine lv_iload_n hx hb d_MO_edition_30 rfl (lv_at hl 2 rfl) ?_
      refine lv_sipush (v := 200) hx hb d_MO_edition_31 (by decide) ?_
      refine lv_icmp_ge (tgt := 69) hx hb d_MO_edition_34 (by decide) (fun c_6 => absurd c_6 (fun q => absurd ((n_le (a := 200) (b := n) (by omega) (by omega)).mp q) (by omega))) (fun c_6 => ?_)
      refine lv_aload_n hx hb d_MO_edition_37 rfl (lv_at hl 0 rfl) ?_
      refine f_get (C := "DutyRulesModel") (T := T_MO) (N := 40) hx hb (fun w q => hT w (s_MO w q)) hown hK hI g_x rfl 3 (by decide) (hT _ w_812) (fun _ q => q) (mo_get (by decide) v_3) d_MO_edition_38 ?_
      refine lv_aload_n hx hb d_MO_edition_41 rfl (lv_at hl 0 rfl) ?_
      refine f_get (C := "DutyRulesModel") (T := T_MO) (N := 40) hx hb (fun w q => hT w (s_MO w q)) hown hK hI g_x rfl 6 (by decide) (hT _ w_815) (fun _ q => q) (mo_get (by decide) v_6) d_MO_edition_42 ?_
      refine lv_bipush (v := 40) hx hb d_MO_edition_45 (by decide) ?_
      refine lv_imul hx hb d_MO_edition_47 ?_
      refine f_asi (pk_mul ne 40) ?_
      refine lv_iconst (v := 5) hx hb d_MO_edition_48 (by decide) ?_
      refine lv_imul hx hb d_MO_edition_49 ?_
      refine f_asi (pk_mul (ne * 40) 5) ?_
      refine lv_iload_n hx hb d_MO_edition_50 rfl (lv_at hl 2 rfl) ?_
      refine lv_iadd hx hb d_MO_edition_51 ?_
      refine f_asi (nI_add ((ne * 40) * 5) n) ?_
      refine lv_aload_n hx hb d_MO_edition_52 rfl (lv_at hl 0 rfl) ?_
      refine f_get (C := "DutyRulesModel") (T := T_MO) (N := 40) hx hb (fun w q => hT w (s_MO w q)) hown hK hI g_x rfl 3 (by decide) (hT _ w_812) (fun _ q => q) (mo_get (by decide) v_3) d_MO_edition_53 ?_
      refine lv_sipush (v := 2000) hx hb d_MO_edition_56 (by decide) ?_
      refine lv_iload_n hx hb d_MO_edition_59 rfl (lv_at hl 2 rfl) ?_
      refine lv_iadd hx hb d_MO_edition_60 ?_
      refine f_asi (nI_add 2000 n) ?_
      refine f_ialdn (k := (2000 + n)) (v := (nI (cp rr ne n (2000 + n)))) hx hb hI g_a3 (fT.ofK hK (t0 := 0) rfl) (by omega) (by omega) rfl d_MO_edition_61 ?_
      refine f_iastn (k := (((ne * 40) * 5) + n)) (f' := (fun i => nI (cp rr ne (n + 1) i))) hx hb hI g_a3 (by decide) (fT.ofK hK (t0 := 0) rfl) (by omega) (by omega) (cp_up bne2 (by omega)) d_MO_edition_62 (fun H locs hI => ?_)
      generalize eh_7 : fU h1 a3 (44, 0, .inl ((G.2.1 0), 2200, .inl (fun i => nI (cp rr ne (n + 1) i)))) = h_7 at hI
      have hX := hX.set (e := .inl ((G.2.1 0), 2200, .inl (fun i => nI (cp rr ne (n + 1) i)))) g_a3 (by decide); rw [eh_7] at hX
      have hF := hF.set (e := .inl ((G.2.1 0), 2200, .inl (fun i => nI (cp rr ne (n + 1) i)))) g_a3 (by decide); rw [eh_7] at hF
      have g_a4 : h_7 a4 = some (45, 0, .inl ((G.2.1 0), 11, .inl (fun i => nI (rm i)))) := (congrFun eh_7 a4).symm.trans (fU_keep g_a4 (f_neR g_a4 g_a3 (by decide)))
      have g_a5 : h_7 a5 = some (46, 0, .inl ((G.2.1 1), 11, .inr (.inl (fun i => lN (ef i))))) := (congrFun eh_7 a5).symm.trans (fU_keep g_a5 (f_neR g_a5 g_a3 (by decide)))
      have g_x : h_7 x = some (40, 0, .inr (8, mo mf)) := (congrFun eh_7 x).symm.trans (fU_keep g_x (f_neR g_x g_a3 (by decide)))
      have g_a3 : h_7 a3 = some (44, 0, .inl ((G.2.1 0), 2200, .inl (fun i => nI (cp rr ne (n + 1) i)))) := (congrFun eh_7 a3).symm.trans (fU_self _ _ _)
      refine lv_iinc (v := nI (n + 1)) (lv' := [(3, .int (nI (n + 1))), (0, .ref x), (1, .long (lN d))]) hx hb d_MO_edition_63 hl (k := 2) rfl (f_inc1 _) (by decide) rfl (fun ls hl => ?_)
      refine lv_goto (tgt := 30) hx hb d_MO_edition_66 (by decide) ?_
      exact ih (n + 1) (by omega) _ _ _ g_x g_a3 g_a4 g_a5 hF hX hI ls (lv_sub hl [1, 2, 0] rfl)
  refine lv_lload_n hx hb d_MO_edition_0 rfl (lv_at hl 1 rfl) ?_
  refine lv_lconst (v := 0) hx hb d_MO_edition_1 (by decide) ?_
  refine f_lc_lt (tgt := 14) hx hb d_MO_edition_2 d_MO_edition_3 (by decide) (fun c_8 => absurd c_8 (fun q => absurd ((pk_lLT (a := d) (b := 0) (by omega) (by omega)).mp q) (by omega))) (fun c_8 => ?_)
  refine lv_lload_n hx hb d_MO_edition_6 rfl (lv_at hl 1 rfl) ?_
  refine lv_ldc2 (v := 100000) hx hb hown (hT _ w_974) d_MO_edition_7 ?_
  refine f_lc_le (tgt := 16) hx hb d_MO_edition_10 d_MO_edition_11 (by decide) (fun c_9 => ?_) (fun c_9 => absurd ((pk_lLE (a := d) (b := 100000) (by omega) (by omega)).mpr (by omega)) c_9)
  refine lv_aload_n hx hb d_MO_edition_16 rfl (lv_at hl 0 rfl) ?_
  refine f_get (C := "DutyRulesModel") (T := T_MO) (N := 40) hx hb (fun w q => hT w (s_MO w q)) hown hK hI g_x rfl 6 (by decide) (hT _ w_815) (fun _ q => q) (mo_get (by decide) v_6) d_MO_edition_17 ?_
  refine lv_bipush (v := 10) hx hb d_MO_edition_20 (by decide) ?_
  refine lv_icmp_ne (tgt := 28) hx hb d_MO_edition_22 (by decide) (fun c_10 => ?_) (fun c_10 => absurd c_10 (fun q => absurd ((n_eq (a := ne) (b := 10) (by omega) (by omega)).mp q) (by omega)))
  refine lv_iconst (v := 0) hx hb d_MO_edition_28 (by decide) ?_
  refine lv_istore_n (lv' := [(3, .int 0), (0, .ref x), (1, .long (lN d))]) hx hb d_MO_edition_29 rfl hl (by decide) rfl (fun ls hl => ?_)
  exact LOOP 200 0 (by omega) h _ _ g_x (by rw [cp_0]; exact g_a3) g_a4 g_a5 fF.rf hX hI ls (lv_sub hl [1, 2, 0] rfl)
theorem gm_MO_fact : gM y_MO_fact b_MO_fact 11 (some .boolean) 5 := ⟨w_994, w_10, ⟨by decide, by decide⟩, by decide +kernel⟩
set_option maxHeartbeats 4000000 in
set_option maxRecDepth 100000 in
/-- MO_fact  -/
theorem c_MO_fact_no (l : Launch) (G : gG) (h : fH) (sz : Nat) (x : Nat) (lot kd : Int32) (dy ab be : Int64) (mf : Nat → Value) (g_x : h x = some (40, 0, .inr (8, mo mf))) (nf : Nat) (fl fk fd fw fv : Nat → Nat) (hFc : mFc G h mf nf fl fk fd fw fv) (hbad : (lot < 0 ∨ 30 ≤ lot) ∨ kd < 0 ∨ 6 ≤ kd ∨ (dy < 0 ∨ 100000 < dy) ∨ be < 1 ∨ 100 < be ∨ ¬ ab - ab / be * be = 0 ∨ ab / be < 0 ∨ (if kd = 0 then (9 : Int64) else (if kd = 1 then 10000 else (if kd = 3 then 100000000 else 1000000))) < ab / be ∨ nf = 300) : cM l y_MO_fact b_MO_fact 11 (some .boolean) { frames := 1, cells := 0, slots := 0, locals := 21 } G [.ref x, .int lot, .int kd, .long dy, .long ab, .long be] h sz (cQi G h sz (fun r h' => r = 0 ∧ h' = h)) := by
  refine f_start (by decide) (Nat.le_of_ble_eq_true rfl) ?_
  intro p e s m below meth c ls C hr hsz hI hl
  obtain ⟨hx, hb, hml, hown, hnm, hlk, hT, hG, hZ⟩ := id C
  have hK := hG.1
  have hX : fX h sz h := fX.rf
  have hl : lv_has ls 11 [(0, .ref x), (1, .int lot), (2, .int kd), (3, .long dy), (5, .long ab), (7, .long be)] := hl
  obtain ⟨a7, a8, a9, a10, a11, ⟨v_7, v_8, v_9, v_10, v_11, v_12⟩, ⟨g_a7, g_a8, g_a9, g_a10, g_a11⟩, bnf, bfl, bfk, bfd, bfw, bfv0⟩ := hFc
  refine lv_iload_n hx hb d_MO_fact_0 rfl (lv_at hl 1 rfl) ?_
  refine f_calli hI (f_runS C hI (c_MO_isLot l G h _ lot) gm_MO_isLot w_996 w_995 rfl hl.1 rfl (Nat.le_of_ble_eq_true rfl) ⟨Nat.le_of_ble_eq_true rfl, Nat.le_of_ble_eq_true rfl⟩ d_MO_fact_1 ⟨Nat.le_of_ble_eq_true rfl, Nat.le_of_ble_eq_true rfl⟩) (fun r_1 h8 H9 locs hp9 hX9 hz9 hI => ?_)
  obtain ⟨rfl, e9⟩ := hp9
  rw [e9] at hI
  clear hX9 e9
  refine lv_if_eq (tgt := 50) hx hb d_MO_fact_4 (by decide) (fun c_2 => ?_) (fun c_2 => ?_)
  · skip
    refine lv_iconst (v := 0) hx hb d_MO_fact_50 (by decide) ?_
    exact f_zret C hr rfl hI ⟨rfl, rfl⟩ hX (Nat.le_refl _) (Nat.le_refl _) d_MO_fact_51
  · skip
    refine lv_iload_n hx hb d_MO_fact_7 rfl (lv_at hl 2 rfl) ?_
    refine lv_if_lt (tgt := 50) hx hb d_MO_fact_8 (by decide) (fun c_3 => ?_) (fun c_3 => ?_)
    · skip
      refine lv_iconst (v := 0) hx hb d_MO_fact_50 (by decide) ?_
      exact f_zret C hr rfl hI ⟨rfl, rfl⟩ hX (Nat.le_refl _) (Nat.le_refl _) d_MO_fact_51
    · skip
      refine lv_iload_n hx hb d_MO_fact_11 rfl (lv_at hl 2 rfl) ?_
      refine lv_bipush (v := 6) hx hb d_MO_fact_12 (by decide) ?_
      refine lv_icmp_ge (tgt := 50) hx hb d_MO_fact_14 (by decide) (fun c_4 => ?_) (fun c_4 => ?_)
      · skip
        refine lv_iconst (v := 0) hx hb d_MO_fact_50 (by decide) ?_
        exact f_zret C hr rfl hI ⟨rfl, rfl⟩ hX (Nat.le_refl _) (Nat.le_refl _) d_MO_fact_51
      · skip
        refine lv_lload_n hx hb d_MO_fact_17 rfl (lv_at hl 3 rfl) ?_
        refine f_calli hI (f_runS C hI (c_MO_isDay l G h _ dy) gm_MO_isDay w_999 w_998 rfl hl.1 rfl (Nat.le_of_ble_eq_true rfl) ⟨Nat.le_of_ble_eq_true rfl, Nat.le_of_ble_eq_true rfl⟩ d_MO_fact_18 ⟨Nat.le_of_ble_eq_true rfl, Nat.le_of_ble_eq_true rfl⟩) (fun r_5 h8 H9 locs hp9 hX9 hz9 hI => ?_)
        obtain ⟨rfl, e9⟩ := hp9
        rw [e9] at hI
        clear hX9 e9
        refine lv_if_eq (tgt := 50) hx hb d_MO_fact_21 (by decide) (fun c_6 => ?_) (fun c_6 => ?_)
        · skip
          refine lv_iconst (v := 0) hx hb d_MO_fact_50 (by decide) ?_
          exact f_zret C hr rfl hI ⟨rfl, rfl⟩ hX (Nat.le_refl _) (Nat.le_refl _) d_MO_fact_51
        · skip
          refine lv_lload hx hb d_MO_fact_24 (lv_at hl 5 rfl) ?_
          refine lv_lconst (v := 1) hx hb d_MO_fact_26 (by decide) ?_
          refine f_lc_lt (tgt := 50) hx hb d_MO_fact_27 d_MO_fact_28 (by decide) (fun c_7 => ?_) (fun c_7 => ?_)
          · skip
            refine lv_iconst (v := 0) hx hb d_MO_fact_50 (by decide) ?_
            exact f_zret C hr rfl hI ⟨rfl, rfl⟩ hX (Nat.le_refl _) (Nat.le_refl _) d_MO_fact_51
          · skip
            refine lv_lload hx hb d_MO_fact_31 (lv_at hl 5 rfl) ?_
            refine lv_ldc2 (v := 100) hx hb hown (hT _ w_1001) d_MO_fact_33 ?_
            refine f_lc_gt (tgt := 50) hx hb d_MO_fact_36 d_MO_fact_37 (by decide) (fun c_8 => ?_) (fun c_8 => ?_)
            · skip
              refine lv_iconst (v := 0) hx hb d_MO_fact_50 (by decide) ?_
              exact f_zret C hr rfl hI ⟨rfl, rfl⟩ hX (Nat.le_refl _) (Nat.le_refl _) d_MO_fact_51
            · skip
              refine lv_lload hx hb d_MO_fact_40 (lv_at hl 4 rfl) ?_
              refine lv_lload hx hb d_MO_fact_42 (lv_at hl 5 rfl) ?_
              refine lv_lrem hx hb d_MO_fact_44 (fun q => c_7 (by rw [q]; decide)) ?_
              refine lv_lconst (v := 0) hx hb d_MO_fact_45 (by decide) ?_
              refine f_lc_eq (tgt := 52) hx hb d_MO_fact_46 d_MO_fact_47 (by decide) (fun c_9 => ?_) (fun c_9 => ?_)
              · skip
                refine lv_lload hx hb d_MO_fact_52 (lv_at hl 4 rfl) ?_
                refine lv_lload hx hb d_MO_fact_54 (lv_at hl 5 rfl) ?_
                refine lv_ldiv hx hb d_MO_fact_56 (fun q => c_7 (by rw [q]; decide)) ?_
                refine lv_lstore (lv' := [(9, .long (ab / be)), (0, .ref x), (1, .int lot), (2, .int kd), (3, .long dy), (5, .long ab), (7, .long be)]) hx hb d_MO_fact_57 hl (by decide) rfl (fun ls hl => ?_)
                refine lv_lload hx hb d_MO_fact_59 (lv_at hl 0 rfl) ?_
                refine lv_lconst (v := 0) hx hb d_MO_fact_61 (by decide) ?_
                refine f_lc_lt (tgt := 86) hx hb d_MO_fact_62 d_MO_fact_63 (by decide) (fun c_10 => ?_) (fun c_10 => ?_)
                · skip
                  refine lv_iconst (v := 0) hx hb d_MO_fact_86 (by decide) ?_
                  exact f_zret C hr rfl hI ⟨rfl, rfl⟩ hX (Nat.le_refl _) (Nat.le_refl _) d_MO_fact_87
                · skip
                  refine lv_lload hx hb d_MO_fact_66 (lv_at hl 0 rfl) ?_
                  refine lv_iload_n hx hb d_MO_fact_68 rfl (lv_at hl 3 rfl) ?_
                  refine f_calll hI (f_runS C hI (c_MO_most l G h _ kd) gm_MO_most w_1003 w_1002 rfl hl.1 rfl (Nat.le_of_ble_eq_true rfl) ⟨Nat.le_of_ble_eq_true rfl, Nat.le_of_ble_eq_true rfl⟩ d_MO_fact_69 ⟨Nat.le_of_ble_eq_true rfl, Nat.le_of_ble_eq_true rfl⟩) (fun r_11 h8 H9 locs hp9 hX9 hz9 hI => ?_)
                  obtain ⟨rfl, e9⟩ := hp9
                  rw [e9] at hI
                  clear hX9 e9
                  refine f_lc_gt (tgt := 86) hx hb d_MO_fact_72 d_MO_fact_73 (by decide) (fun c_12 => ?_) (fun c_12 => ?_)
                  · skip
                    refine lv_iconst (v := 0) hx hb d_MO_fact_86 (by decide) ?_
                    exact f_zret C hr rfl hI ⟨rfl, rfl⟩ hX (Nat.le_refl _) (Nat.le_refl _) d_MO_fact_87
                  · skip
                    refine lv_aload_n hx hb d_MO_fact_76 rfl (lv_at hl 1 rfl) ?_
                    refine f_get (C := "DutyRulesModel") (T := T_MO) (N := 40) hx hb (fun w q => hT w (s_MO w q)) hown hK hI g_x rfl 12 (by decide) (hT _ w_821) (fun _ q => q) (mo_get (by decide) v_12) d_MO_fact_77 ?_
                    refine lv_sipush (v := 300) hx hb d_MO_fact_80 (by decide) ?_
                    refine lv_icmp_ne (tgt := 88) hx hb d_MO_fact_83 (by decide) (fun c_13 => ?_) (fun c_13 => ?_)
                    · have c_13 : ¬ nf = 300 := fun q => c_13 ((n_eq (a := nf) (b := 300) (by omega) (by omega)).mpr q)
                      exfalso
                      rcases hbad with q | q | q | q | q | q | q | q | q | q
                      · exact rng_no c_2 q
                      · exact c_3 q
                      · exact c_4 q
                      · exact day_no c_6 q
                      · exact c_7 q
                      · exact c_8 q
                      · exact q c_9
                      · exact c_10 q
                      · exact c_12 q
                      · exact c_13 q
                    · have c_13 : nf = 300 := (n_eq (a := nf) (b := 300) (by omega) (by omega)).mp c_13
                      refine lv_iconst (v := 0) hx hb d_MO_fact_86 (by decide) ?_
                      exact f_zret C hr rfl hI ⟨rfl, rfl⟩ hX (Nat.le_refl _) (Nat.le_refl _) d_MO_fact_87
              · skip
                refine lv_iconst (v := 0) hx hb d_MO_fact_50 (by decide) ?_
                exact f_zret C hr rfl hI ⟨rfl, rfl⟩ hX (Nat.le_refl _) (Nat.le_refl _) d_MO_fact_51
set_option maxHeartbeats 4000000 in
set_option maxRecDepth 100000 in
/-- MO_fact  -/
theorem c_MO_fact_ok (l : Launch) (G : gG) (h : fH) (sz : Nat) (x lo ki d v : Nat) (ab be : Int64) (mf : Nat → Value) (g_x : h x = some (40, 0, .inr (8, mo mf))) (nf : Nat) (fl fk fd fw fv : Nat → Nat) (hFc : mFc G h mf nf fl fk fd fw fv) (la : Nat) (v_13 : mf 13 = .long (lN la)) (bla : la ≤ 100000) (blo : lo < 30) (bki : ki < 6) (bd : d ≤ 100000) (be1 : ¬ be < 1) (be2 : ¬ 100 < be) (hre : ab - ab / be * be = 0) (hq9 : ab / be = lN v) (bv : v ≤ mostN ki) (bnf2 : nf < 300) : cM l y_MO_fact b_MO_fact 11 (some .boolean) { frames := 1, cells := 0, slots := 0, locals := 21 } G [.ref x, .int (nI lo), .int (nI ki), .long (lN d), .long ab, .long be] h sz (cQi G h sz (fun r h' => r = 1 ∧ ∃ mf', h' x = some (40, 0, .inr (8, mo mf')) ∧ (∀ j, j ≠ 12 → j ≠ 13 → mf' j = mf j) ∧ mFc G h' mf' (nf + 1) (va_up fl nf lo) (va_up fk nf ki) (va_up fd nf d) (va_up fw nf d) (va_up fv nf v) ∧ mf' 13 = .long (lN (max la d)) ∧ fF (inR [40, 48, 49, 50, 51, 52]) h h')) := by
  refine f_start (by decide) (Nat.le_of_ble_eq_true rfl) ?_
  intro p e s m below meth c ls C hr hsz hI hl
  obtain ⟨hx, hb, hml, hown, hnm, hlk, hT, hG, hZ⟩ := id C
  have hK := hG.1
  have hX : fX h sz h := fX.rf
  have hl : lv_has ls 11 [(0, .ref x), (1, .int (nI lo)), (2, .int (nI ki)), (3, .long (lN d)), (5, .long ab), (7, .long be)] := hl
  obtain ⟨a7, a8, a9, a10, a11, ⟨v_7, v_8, v_9, v_10, v_11, v_12⟩, ⟨g_a7, g_a8, g_a9, g_a10, g_a11⟩, bnf, bfl, bfk, bfd, bfw, bfv0⟩ := hFc
  have hF : fF (inR [40, 48, 49, 50, 51, 52]) h h := fF.rf
  have bv8 := Nat.le_trans bv (mostN_le ki)
  have hbz : ¬ be = 0 := fun q => be1 (by rw [q]; decide)
  refine lv_iload_n hx hb d_MO_fact_0 rfl (lv_at hl 1 rfl) ?_
  refine f_calli hI (f_runS C hI (c_MO_isLot l G h _ (nI lo)) gm_MO_isLot w_996 w_995 rfl hl.1 rfl (Nat.le_of_ble_eq_true rfl) ⟨Nat.le_of_ble_eq_true rfl, Nat.le_of_ble_eq_true rfl⟩ d_MO_fact_1 ⟨Nat.le_of_ble_eq_true rfl, Nat.le_of_ble_eq_true rfl⟩) (fun r_1 h8 H9 locs hp9 hX9 hz9 hI => ?_)
  obtain ⟨rfl, e9⟩ := hp9
  rw [e9] at hI
  clear hX9 e9
  rw [rng_ok (a := nI lo) (N := 30) (nI_pos (by omega)) (fun q => absurd ((n_le (a := 30) (b := lo) (by omega) (by omega)).mp q) (by omega))]
  refine lv_if_eq (tgt := 50) hx hb d_MO_fact_4 (by decide) (fun c_2 => absurd c_2 (by decide)) (fun c_2 => ?_)
  refine lv_iload_n hx hb d_MO_fact_7 rfl (lv_at hl 2 rfl) ?_
  refine lv_if_lt (tgt := 50) hx hb d_MO_fact_8 (by decide) (fun c_3 => absurd c_3 (nI_pos (by omega))) (fun c_3 => ?_)
  refine lv_iload_n hx hb d_MO_fact_11 rfl (lv_at hl 2 rfl) ?_
  refine lv_bipush (v := 6) hx hb d_MO_fact_12 (by decide) ?_
  refine lv_icmp_ge (tgt := 50) hx hb d_MO_fact_14 (by decide) (fun c_4 => absurd c_4 (fun q => absurd ((n_le (a := 6) (b := ki) (by omega) (by omega)).mp q) (by omega))) (fun c_4 => ?_)
  refine lv_lload_n hx hb d_MO_fact_17 rfl (lv_at hl 3 rfl) ?_
  refine f_calli hI (f_runS C hI (c_MO_isDay l G h _ (lN d)) gm_MO_isDay w_999 w_998 rfl hl.1 rfl (Nat.le_of_ble_eq_true rfl) ⟨Nat.le_of_ble_eq_true rfl, Nat.le_of_ble_eq_true rfl⟩ d_MO_fact_18 ⟨Nat.le_of_ble_eq_true rfl, Nat.le_of_ble_eq_true rfl⟩) (fun r_5 h8 H9 locs hp9 hX9 hz9 hI => ?_)
  obtain ⟨rfl, e9⟩ := hp9
  rw [e9] at hI
  clear hX9 e9
  refine f_asi (day_ok (d := d) (n := 100000) bd (by decide)) ?_
  refine lv_if_eq (tgt := 50) hx hb d_MO_fact_21 (by decide) (fun c_6 => absurd c_6 (by decide)) (fun c_6 => ?_)
  refine lv_lload hx hb d_MO_fact_24 (lv_at hl 5 rfl) ?_
  refine lv_lconst (v := 1) hx hb d_MO_fact_26 (by decide) ?_
  refine f_lc_lt (tgt := 50) hx hb d_MO_fact_27 d_MO_fact_28 (by decide) (fun c_7 => absurd c_7 be1) (fun c_7 => ?_)
  refine lv_lload hx hb d_MO_fact_31 (lv_at hl 5 rfl) ?_
  refine lv_ldc2 (v := 100) hx hb hown (hT _ w_1001) d_MO_fact_33 ?_
  refine f_lc_gt (tgt := 50) hx hb d_MO_fact_36 d_MO_fact_37 (by decide) (fun c_8 => absurd c_8 be2) (fun c_8 => ?_)
  refine lv_lload hx hb d_MO_fact_40 (lv_at hl 4 rfl) ?_
  refine lv_lload hx hb d_MO_fact_42 (lv_at hl 5 rfl) ?_
  refine lv_lrem hx hb d_MO_fact_44 hbz ?_
  refine lv_lconst (v := 0) hx hb d_MO_fact_45 (by decide) ?_
  refine f_lc_eq (tgt := 52) hx hb d_MO_fact_46 d_MO_fact_47 (by decide) (fun c_9 => ?_) (fun c_9 => absurd hre c_9)
  refine lv_lload hx hb d_MO_fact_52 (lv_at hl 4 rfl) ?_
  refine lv_lload hx hb d_MO_fact_54 (lv_at hl 5 rfl) ?_
  refine lv_ldiv hx hb d_MO_fact_56 hbz ?_
  refine f_asl hq9 ?_
  refine lv_lstore (lv' := [(9, .long (lN v)), (0, .ref x), (1, .int (nI lo)), (2, .int (nI ki)), (3, .long (lN d)), (5, .long ab), (7, .long be)]) hx hb d_MO_fact_57 hl (by decide) rfl (fun ls hl => ?_)
  refine lv_lload hx hb d_MO_fact_59 (lv_at hl 0 rfl) ?_
  refine lv_lconst (v := 0) hx hb d_MO_fact_61 (by decide) ?_
  refine f_lc_lt (tgt := 86) hx hb d_MO_fact_62 d_MO_fact_63 (by decide) (fun c_10 => absurd c_10 (fun q => absurd ((pk_lLT (a := v) (b := 0) (by omega) (by omega)).mp q) (by omega))) (fun c_10 => ?_)
  refine lv_lload hx hb d_MO_fact_66 (lv_at hl 0 rfl) ?_
  refine lv_iload_n hx hb d_MO_fact_68 rfl (lv_at hl 3 rfl) ?_
  refine f_calll hI (f_runS C hI (c_MO_most l G h _ (nI ki)) gm_MO_most w_1003 w_1002 rfl hl.1 rfl (Nat.le_of_ble_eq_true rfl) ⟨Nat.le_of_ble_eq_true rfl, Nat.le_of_ble_eq_true rfl⟩ d_MO_fact_69 ⟨Nat.le_of_ble_eq_true rfl, Nat.le_of_ble_eq_true rfl⟩) (fun r_11 h8 H9 locs hp9 hX9 hz9 hI => ?_)
  obtain ⟨rfl, e9⟩ := hp9
  rw [e9] at hI
  clear hX9 e9
  rw [most_n bki]
  refine f_lc_gt (tgt := 86) hx hb d_MO_fact_72 d_MO_fact_73 (by decide) (fun c_12 => absurd c_12 (fun q => absurd ((pk_lLT (a := mostN ki) (b := v) (by have := mostN_le ki; omega) (by omega)).mp q) (by omega))) (fun c_12 => ?_)
  refine lv_aload_n hx hb d_MO_fact_76 rfl (lv_at hl 1 rfl) ?_
  refine f_get (C := "DutyRulesModel") (T := T_MO) (N := 40) hx hb (fun w q => hT w (s_MO w q)) hown hK hI g_x rfl 12 (by decide) (hT _ w_821) (fun _ q => q) (mo_get (by decide) v_12) d_MO_fact_77 ?_
  refine lv_sipush (v := 300) hx hb d_MO_fact_80 (by decide) ?_
  refine lv_icmp_ne (tgt := 88) hx hb d_MO_fact_83 (by decide) (fun c_13 => ?_) (fun c_13 => absurd c_13 (fun q => absurd ((n_eq (a := nf) (b := 300) (by omega) (by omega)).mp q) (by omega)))
  refine lv_aload_n hx hb d_MO_fact_88 rfl (lv_at hl 1 rfl) ?_
  refine f_get (C := "DutyRulesModel") (T := T_MO) (N := 40) hx hb (fun w q => hT w (s_MO w q)) hown hK hI g_x rfl 7 (by decide) (hT _ w_816) (fun _ q => q) (mo_get (by decide) v_7) d_MO_fact_89 ?_
  refine lv_aload_n hx hb d_MO_fact_92 rfl (lv_at hl 1 rfl) ?_
  refine f_get (C := "DutyRulesModel") (T := T_MO) (N := 40) hx hb (fun w q => hT w (s_MO w q)) hown hK hI g_x rfl 12 (by decide) (hT _ w_821) (fun _ q => q) (mo_get (by decide) v_12) d_MO_fact_93 ?_
  refine lv_iload_n hx hb d_MO_fact_96 rfl (lv_at hl 2 rfl) ?_
  refine f_iastn (k := nf) (f' := (fun i => nI (va_up fl nf lo i))) hx hb hI g_a7 (by decide) (fT.ofK hK (t0 := 0) rfl) (by omega) (by omega) (up_i fl nf lo) d_MO_fact_97 (fun H locs hI => ?_)
  generalize eh_14 : fU h a7 (48, 0, .inl ((G.2.1 0), 300, .inl (fun i => nI (va_up fl nf lo i)))) = h_14 at hI
  have hX := hX.set (e := .inl ((G.2.1 0), 300, .inl (fun i => nI (va_up fl nf lo i)))) g_a7 (by decide); rw [eh_14] at hX
  have hF := hF.set (e := .inl ((G.2.1 0), 300, .inl (fun i => nI (va_up fl nf lo i)))) g_a7 (by decide); rw [eh_14] at hF
  have g_a8 : h_14 a8 = some (49, 0, .inl ((G.2.1 0), 300, .inl (fun i => nI (fk i)))) := (congrFun eh_14 a8).symm.trans (fU_keep g_a8 (f_neR g_a8 g_a7 (by decide)))
  have g_a9 : h_14 a9 = some (50, 0, .inl ((G.2.1 1), 300, .inr (.inl (fun i => lN (fd i))))) := (congrFun eh_14 a9).symm.trans (fU_keep g_a9 (f_neR g_a9 g_a7 (by decide)))
  have g_a10 : h_14 a10 = some (51, 0, .inl ((G.2.1 1), 300, .inr (.inl (fun i => lN (fw i))))) := (congrFun eh_14 a10).symm.trans (fU_keep g_a10 (f_neR g_a10 g_a7 (by decide)))
  have g_a11 : h_14 a11 = some (52, 0, .inl ((G.2.1 1), 300, .inr (.inl (fun i => lN (fv i))))) := (congrFun eh_14 a11).symm.trans (fU_keep g_a11 (f_neR g_a11 g_a7 (by decide)))
  have g_x : h_14 x = some (40, 0, .inr (8, mo mf)) := (congrFun eh_14 x).symm.trans (fU_keep g_x (f_neR g_x g_a7 (by decide)))
  have g_a7 : h_14 a7 = some (48, 0, .inl ((G.2.1 0), 300, .inl (fun i => nI (va_up fl nf lo i)))) := (congrFun eh_14 a7).symm.trans (fU_self _ _ _)
  refine lv_aload_n hx hb d_MO_fact_98 rfl (lv_at hl 1 rfl) ?_
  refine f_get (C := "DutyRulesModel") (T := T_MO) (N := 40) hx hb (fun w q => hT w (s_MO w q)) hown hK hI g_x rfl 8 (by decide) (hT _ w_817) (fun _ q => q) (mo_get (by decide) v_8) d_MO_fact_99 ?_
  refine lv_aload_n hx hb d_MO_fact_102 rfl (lv_at hl 1 rfl) ?_
  refine f_get (C := "DutyRulesModel") (T := T_MO) (N := 40) hx hb (fun w q => hT w (s_MO w q)) hown hK hI g_x rfl 12 (by decide) (hT _ w_821) (fun _ q => q) (mo_get (by decide) v_12) d_MO_fact_103 ?_
  refine lv_iload_n hx hb d_MO_fact_106 rfl (lv_at hl 3 rfl) ?_
  refine f_iastn (k := nf) (f' := (fun i => nI (va_up fk nf ki i))) hx hb hI g_a8 (by decide) (fT.ofK hK (t0 := 0) rfl) (by omega) (by omega) (up_i fk nf ki) d_MO_fact_107 (fun H locs hI => ?_)
  generalize eh_15 : fU h_14 a8 (49, 0, .inl ((G.2.1 0), 300, .inl (fun i => nI (va_up fk nf ki i)))) = h_15 at hI
  have hX := hX.set (e := .inl ((G.2.1 0), 300, .inl (fun i => nI (va_up fk nf ki i)))) g_a8 (by decide); rw [eh_15] at hX
  have hF := hF.set (e := .inl ((G.2.1 0), 300, .inl (fun i => nI (va_up fk nf ki i)))) g_a8 (by decide); rw [eh_15] at hF
  have g_a7 : h_15 a7 = some (48, 0, .inl ((G.2.1 0), 300, .inl (fun i => nI (va_up fl nf lo i)))) := (congrFun eh_15 a7).symm.trans (fU_keep g_a7 (f_neR g_a7 g_a8 (by decide)))
  have g_a9 : h_15 a9 = some (50, 0, .inl ((G.2.1 1), 300, .inr (.inl (fun i => lN (fd i))))) := (congrFun eh_15 a9).symm.trans (fU_keep g_a9 (f_neR g_a9 g_a8 (by decide)))
  have g_a10 : h_15 a10 = some (51, 0, .inl ((G.2.1 1), 300, .inr (.inl (fun i => lN (fw i))))) := (congrFun eh_15 a10).symm.trans (fU_keep g_a10 (f_neR g_a10 g_a8 (by decide)))
  have g_a11 : h_15 a11 = some (52, 0, .inl ((G.2.1 1), 300, .inr (.inl (fun i => lN (fv i))))) := (congrFun eh_15 a11).symm.trans (fU_keep g_a11 (f_neR g_a11 g_a8 (by decide)))
  have g_x : h_15 x = some (40, 0, .inr (8, mo mf)) := (congrFun eh_15 x).symm.trans (fU_keep g_x (f_neR g_x g_a8 (by decide)))
  have g_a8 : h_15 a8 = some (49, 0, .inl ((G.2.1 0), 300, .inl (fun i => nI (va_up fk nf ki i)))) := (congrFun eh_15 a8).symm.trans (fU_self _ _ _)
  refine lv_aload_n hx hb d_MO_fact_108 rfl (lv_at hl 1 rfl) ?_
  refine f_get (C := "DutyRulesModel") (T := T_MO) (N := 40) hx hb (fun w q => hT w (s_MO w q)) hown hK hI g_x rfl 9 (by decide) (hT _ w_818) (fun _ q => q) (mo_get (by decide) v_9) d_MO_fact_109 ?_
  refine lv_aload_n hx hb d_MO_fact_112 rfl (lv_at hl 1 rfl) ?_
  refine f_get (C := "DutyRulesModel") (T := T_MO) (N := 40) hx hb (fun w q => hT w (s_MO w q)) hown hK hI g_x rfl 12 (by decide) (hT _ w_821) (fun _ q => q) (mo_get (by decide) v_12) d_MO_fact_113 ?_
  refine lv_lload_n hx hb d_MO_fact_116 rfl (lv_at hl 4 rfl) ?_
  refine f_lastn (k := nf) (f' := (fun i => lN (va_up fd nf d i))) hx hb hI g_a9 (by decide) (fT.ofK hK (t0 := 1) rfl) (by omega) (by omega) (up_l fd nf d) d_MO_fact_117 (fun H locs hI => ?_)
  generalize eh_16 : fU h_15 a9 (50, 0, .inl ((G.2.1 1), 300, .inr (.inl (fun i => lN (va_up fd nf d i))))) = h_16 at hI
  have hX := hX.set (e := .inl ((G.2.1 1), 300, .inr (.inl (fun i => lN (va_up fd nf d i))))) g_a9 (by decide); rw [eh_16] at hX
  have hF := hF.set (e := .inl ((G.2.1 1), 300, .inr (.inl (fun i => lN (va_up fd nf d i))))) g_a9 (by decide); rw [eh_16] at hF
  have g_a7 : h_16 a7 = some (48, 0, .inl ((G.2.1 0), 300, .inl (fun i => nI (va_up fl nf lo i)))) := (congrFun eh_16 a7).symm.trans (fU_keep g_a7 (f_neR g_a7 g_a9 (by decide)))
  have g_a8 : h_16 a8 = some (49, 0, .inl ((G.2.1 0), 300, .inl (fun i => nI (va_up fk nf ki i)))) := (congrFun eh_16 a8).symm.trans (fU_keep g_a8 (f_neR g_a8 g_a9 (by decide)))
  have g_a10 : h_16 a10 = some (51, 0, .inl ((G.2.1 1), 300, .inr (.inl (fun i => lN (fw i))))) := (congrFun eh_16 a10).symm.trans (fU_keep g_a10 (f_neR g_a10 g_a9 (by decide)))
  have g_a11 : h_16 a11 = some (52, 0, .inl ((G.2.1 1), 300, .inr (.inl (fun i => lN (fv i))))) := (congrFun eh_16 a11).symm.trans (fU_keep g_a11 (f_neR g_a11 g_a9 (by decide)))
  have g_x : h_16 x = some (40, 0, .inr (8, mo mf)) := (congrFun eh_16 x).symm.trans (fU_keep g_x (f_neR g_x g_a9 (by decide)))
  have g_a9 : h_16 a9 = some (50, 0, .inl ((G.2.1 1), 300, .inr (.inl (fun i => lN (va_up fd nf d i))))) := (congrFun eh_16 a9).symm.trans (fU_self _ _ _)
  refine lv_aload_n hx hb d_MO_fact_118 rfl (lv_at hl 1 rfl) ?_
  refine f_get (C := "DutyRulesModel") (T := T_MO) (N := 40) hx hb (fun w q => hT w (s_MO w q)) hown hK hI g_x rfl 10 (by decide) (hT _ w_819) (fun _ q => q) (mo_get (by decide) v_10) d_MO_fact_119 ?_
  refine lv_aload_n hx hb d_MO_fact_122 rfl (lv_at hl 1 rfl) ?_
  refine f_get (C := "DutyRulesModel") (T := T_MO) (N := 40) hx hb (fun w q => hT w (s_MO w q)) hown hK hI g_x rfl 12 (by decide) (hT _ w_821) (fun _ q => q) (mo_get (by decide) v_12) d_MO_fact_123 ?_
  refine lv_lload_n hx hb d_MO_fact_126 rfl (lv_at hl 4 rfl) ?_
  refine f_lastn (k := nf) (f' := (fun i => lN (va_up fw nf d i))) hx hb hI g_a10 (by decide) (fT.ofK hK (t0 := 1) rfl) (by omega) (by omega) (up_l fw nf d) d_MO_fact_127 (fun H locs hI => ?_)
  generalize eh_17 : fU h_16 a10 (51, 0, .inl ((G.2.1 1), 300, .inr (.inl (fun i => lN (va_up fw nf d i))))) = h_17 at hI
  have hX := hX.set (e := .inl ((G.2.1 1), 300, .inr (.inl (fun i => lN (va_up fw nf d i))))) g_a10 (by decide); rw [eh_17] at hX
  have hF := hF.set (e := .inl ((G.2.1 1), 300, .inr (.inl (fun i => lN (va_up fw nf d i))))) g_a10 (by decide); rw [eh_17] at hF
  have g_a7 : h_17 a7 = some (48, 0, .inl ((G.2.1 0), 300, .inl (fun i => nI (va_up fl nf lo i)))) := (congrFun eh_17 a7).symm.trans (fU_keep g_a7 (f_neR g_a7 g_a10 (by decide)))
  have g_a8 : h_17 a8 = some (49, 0, .inl ((G.2.1 0), 300, .inl (fun i => nI (va_up fk nf ki i)))) := (congrFun eh_17 a8).symm.trans (fU_keep g_a8 (f_neR g_a8 g_a10 (by decide)))
  have g_a9 : h_17 a9 = some (50, 0, .inl ((G.2.1 1), 300, .inr (.inl (fun i => lN (va_up fd nf d i))))) := (congrFun eh_17 a9).symm.trans (fU_keep g_a9 (f_neR g_a9 g_a10 (by decide)))
  have g_a11 : h_17 a11 = some (52, 0, .inl ((G.2.1 1), 300, .inr (.inl (fun i => lN (fv i))))) := (congrFun eh_17 a11).symm.trans (fU_keep g_a11 (f_neR g_a11 g_a10 (by decide)))
  have g_x : h_17 x = some (40, 0, .inr (8, mo mf)) := (congrFun eh_17 x).symm.trans (fU_keep g_x (f_neR g_x g_a10 (by decide)))
  have g_a10 : h_17 a10 = some (51, 0, .inl ((G.2.1 1), 300, .inr (.inl (fun i => lN (va_up fw nf d i))))) := (congrFun eh_17 a10).symm.trans (fU_self _ _ _)
  refine lv_aload_n hx hb d_MO_fact_128 rfl (lv_at hl 1 rfl) ?_
  refine f_get (C := "DutyRulesModel") (T := T_MO) (N := 40) hx hb (fun w q => hT w (s_MO w q)) hown hK hI g_x rfl 11 (by decide) (hT _ w_820) (fun _ q => q) (mo_get (by decide) v_11) d_MO_fact_129 ?_
  refine lv_aload_n hx hb d_MO_fact_132 rfl (lv_at hl 1 rfl) ?_
  refine f_get (C := "DutyRulesModel") (T := T_MO) (N := 40) hx hb (fun w q => hT w (s_MO w q)) hown hK hI g_x rfl 12 (by decide) (hT _ w_821) (fun _ q => q) (mo_get (by decide) v_12) d_MO_fact_133 ?_
  refine lv_lload hx hb d_MO_fact_136 (lv_at hl 0 rfl) ?_
  refine f_lastn (k := nf) (f' := (fun i => lN (va_up fv nf v i))) hx hb hI g_a11 (by decide) (fT.ofK hK (t0 := 1) rfl) (by omega) (by omega) (up_l fv nf v) d_MO_fact_138 (fun H locs hI => ?_)
  generalize eh_18 : fU h_17 a11 (52, 0, .inl ((G.2.1 1), 300, .inr (.inl (fun i => lN (va_up fv nf v i))))) = h_18 at hI
  have hX := hX.set (e := .inl ((G.2.1 1), 300, .inr (.inl (fun i => lN (va_up fv nf v i))))) g_a11 (by decide); rw [eh_18] at hX
  have hF := hF.set (e := .inl ((G.2.1 1), 300, .inr (.inl (fun i => lN (va_up fv nf v i))))) g_a11 (by decide); rw [eh_18] at hF
  have g_a7 : h_18 a7 = some (48, 0, .inl ((G.2.1 0), 300, .inl (fun i => nI (va_up fl nf lo i)))) := (congrFun eh_18 a7).symm.trans (fU_keep g_a7 (f_neR g_a7 g_a11 (by decide)))
  have g_a8 : h_18 a8 = some (49, 0, .inl ((G.2.1 0), 300, .inl (fun i => nI (va_up fk nf ki i)))) := (congrFun eh_18 a8).symm.trans (fU_keep g_a8 (f_neR g_a8 g_a11 (by decide)))
  have g_a9 : h_18 a9 = some (50, 0, .inl ((G.2.1 1), 300, .inr (.inl (fun i => lN (va_up fd nf d i))))) := (congrFun eh_18 a9).symm.trans (fU_keep g_a9 (f_neR g_a9 g_a11 (by decide)))
  have g_a10 : h_18 a10 = some (51, 0, .inl ((G.2.1 1), 300, .inr (.inl (fun i => lN (va_up fw nf d i))))) := (congrFun eh_18 a10).symm.trans (fU_keep g_a10 (f_neR g_a10 g_a11 (by decide)))
  have g_x : h_18 x = some (40, 0, .inr (8, mo mf)) := (congrFun eh_18 x).symm.trans (fU_keep g_x (f_neR g_x g_a11 (by decide)))
  have g_a11 : h_18 a11 = some (52, 0, .inl ((G.2.1 1), 300, .inr (.inl (fun i => lN (va_up fv nf v i))))) := (congrFun eh_18 a11).symm.trans (fU_self _ _ _)
  refine lv_aload_n hx hb d_MO_fact_139 rfl (lv_at hl 1 rfl) ?_
  refine lv_dup hx hb d_MO_fact_140 rfl ?_
  refine f_get (C := "DutyRulesModel") (T := T_MO) (N := 40) hx hb (fun w q => hT w (s_MO w q)) hown hK hI g_x rfl 12 (by decide) (hT _ w_821) (fun _ q => q) (mo_get (by decide) v_12) d_MO_fact_141 ?_
  refine lv_iconst (v := 1) hx hb d_MO_fact_144 (by decide) ?_
  refine lv_iadd hx hb d_MO_fact_145 ?_
  refine f_asi (nI_add nf 1) ?_
  refine f_put (C := "DutyRulesModel") (T := T_MO) (N := 40) (fs' := mo (va_up mf 12 (.int (nI (nf + 1))))) (v := .int (nI (nf + 1))) hx hb (fun w q => hT w (s_MO w q)) t_MO k_MO n_MO hown hK hI g_x (by decide) rfl 12 (by decide) (hT _ w_821) (fun _ q => q) rfl rfl rfl (by rw [mo_len]; decide) (mo_set _) d_MO_fact_146 (fun H locs hI => ?_)
  generalize emf_19 : va_up mf 12 (.int (nI (nf + 1))) = mf_19 at hI
  have v_7 : mf_19 7 = .ref a7 := (congrFun emf_19 7).symm.trans ((va_up_ne _ _ (by decide)).trans v_7)
  have v_8 : mf_19 8 = .ref a8 := (congrFun emf_19 8).symm.trans ((va_up_ne _ _ (by decide)).trans v_8)
  have v_9 : mf_19 9 = .ref a9 := (congrFun emf_19 9).symm.trans ((va_up_ne _ _ (by decide)).trans v_9)
  have v_10 : mf_19 10 = .ref a10 := (congrFun emf_19 10).symm.trans ((va_up_ne _ _ (by decide)).trans v_10)
  have v_11 : mf_19 11 = .ref a11 := (congrFun emf_19 11).symm.trans ((va_up_ne _ _ (by decide)).trans v_11)
  have v_13 : mf_19 13 = .long (lN la) := (congrFun emf_19 13).symm.trans ((va_up_ne _ _ (by decide)).trans v_13)
  have v_12 : mf_19 12 = .int (nI (nf + 1)) := (congrFun emf_19 12).symm.trans (va_up_self _ _ _)
  generalize eh_20 : fU h_18 x (40, 0, .inr (8, mo mf_19)) = h_20 at hI
  have hX := hX.set (e := .inr (8, mo mf_19)) g_x (by decide); rw [eh_20] at hX
  have hF := hF.set (e := .inr (8, mo mf_19)) g_x (by decide); rw [eh_20] at hF
  have g_a7 : h_20 a7 = some (48, 0, .inl ((G.2.1 0), 300, .inl (fun i => nI (va_up fl nf lo i)))) := (congrFun eh_20 a7).symm.trans (fU_keep g_a7 (f_neR g_a7 g_x (by decide)))
  have g_a8 : h_20 a8 = some (49, 0, .inl ((G.2.1 0), 300, .inl (fun i => nI (va_up fk nf ki i)))) := (congrFun eh_20 a8).symm.trans (fU_keep g_a8 (f_neR g_a8 g_x (by decide)))
  have g_a9 : h_20 a9 = some (50, 0, .inl ((G.2.1 1), 300, .inr (.inl (fun i => lN (va_up fd nf d i))))) := (congrFun eh_20 a9).symm.trans (fU_keep g_a9 (f_neR g_a9 g_x (by decide)))
  have g_a10 : h_20 a10 = some (51, 0, .inl ((G.2.1 1), 300, .inr (.inl (fun i => lN (va_up fw nf d i))))) := (congrFun eh_20 a10).symm.trans (fU_keep g_a10 (f_neR g_a10 g_x (by decide)))
  have g_a11 : h_20 a11 = some (52, 0, .inl ((G.2.1 1), 300, .inr (.inl (fun i => lN (va_up fv nf v i))))) := (congrFun eh_20 a11).symm.trans (fU_keep g_a11 (f_neR g_a11 g_x (by decide)))
  have g_x : h_20 x = some (40, 0, .inr (8, mo mf_19)) := (congrFun eh_20 x).symm.trans (fU_self _ _ _)
  refine lv_aload_n hx hb d_MO_fact_149 rfl (lv_at hl 1 rfl) ?_
  refine lv_lload_n hx hb d_MO_fact_150 rfl (lv_at hl 4 rfl) ?_
  refine lv_aload_n hx hb d_MO_fact_151 rfl (lv_at hl 1 rfl) ?_
  refine f_get (C := "DutyRulesModel") (T := T_MO) (N := 40) hx hb (fun w q => hT w (s_MO w q)) hown hK hI g_x rfl 13 (by decide) (hT _ w_822) (fun _ q => q) (mo_get (by decide) v_13) d_MO_fact_152 ?_
  refine f_lc_le (tgt := 163) hx hb d_MO_fact_155 d_MO_fact_156 (by decide) (fun c_21 => ?_) (fun c_21 => ?_)
  · have c_21 : d ≤ la := (pk_lLE (a := d) (b := la) (by omega) (by omega)).mp c_21
    refine lv_aload_n hx hb d_MO_fact_163 rfl (lv_at hl 1 rfl) ?_
    refine f_get (C := "DutyRulesModel") (T := T_MO) (N := 40) hx hb (fun w q => hT w (s_MO w q)) hown hK hI g_x rfl 13 (by decide) (hT _ w_822) (fun _ q => q) (mo_get (by decide) v_13) d_MO_fact_164 ?_
    refine f_put (C := "DutyRulesModel") (T := T_MO) (N := 40) (fs' := mo (va_up mf_19 13 (.long (lN la)))) (v := .long (lN la)) hx hb (fun w q => hT w (s_MO w q)) t_MO k_MO n_MO hown hK hI g_x (by decide) rfl 13 (by decide) (hT _ w_822) (fun _ q => q) rfl rfl rfl (by rw [mo_len]; decide) (mo_set _) d_MO_fact_167 (fun H locs hI => ?_)
    generalize emf_22 : va_up mf_19 13 (.long (lN la)) = mf_22 at hI
    have v_7 : mf_22 7 = .ref a7 := (congrFun emf_22 7).symm.trans ((va_up_ne _ _ (by decide)).trans v_7)
    have v_8 : mf_22 8 = .ref a8 := (congrFun emf_22 8).symm.trans ((va_up_ne _ _ (by decide)).trans v_8)
    have v_9 : mf_22 9 = .ref a9 := (congrFun emf_22 9).symm.trans ((va_up_ne _ _ (by decide)).trans v_9)
    have v_10 : mf_22 10 = .ref a10 := (congrFun emf_22 10).symm.trans ((va_up_ne _ _ (by decide)).trans v_10)
    have v_11 : mf_22 11 = .ref a11 := (congrFun emf_22 11).symm.trans ((va_up_ne _ _ (by decide)).trans v_11)
    have v_12 : mf_22 12 = .int (nI (nf + 1)) := (congrFun emf_22 12).symm.trans ((va_up_ne _ _ (by decide)).trans v_12)
    have v_13 : mf_22 13 = .long (lN la) := (congrFun emf_22 13).symm.trans (va_up_self _ _ _)
    generalize eh_23 : fU h_20 x (40, 0, .inr (8, mo mf_22)) = h_23 at hI
    have hX := hX.set (e := .inr (8, mo mf_22)) g_x (by decide); rw [eh_23] at hX
    have hF := hF.set (e := .inr (8, mo mf_22)) g_x (by decide); rw [eh_23] at hF
    have g_a7 : h_23 a7 = some (48, 0, .inl ((G.2.1 0), 300, .inl (fun i => nI (va_up fl nf lo i)))) := (congrFun eh_23 a7).symm.trans (fU_keep g_a7 (f_neR g_a7 g_x (by decide)))
    have g_a8 : h_23 a8 = some (49, 0, .inl ((G.2.1 0), 300, .inl (fun i => nI (va_up fk nf ki i)))) := (congrFun eh_23 a8).symm.trans (fU_keep g_a8 (f_neR g_a8 g_x (by decide)))
    have g_a9 : h_23 a9 = some (50, 0, .inl ((G.2.1 1), 300, .inr (.inl (fun i => lN (va_up fd nf d i))))) := (congrFun eh_23 a9).symm.trans (fU_keep g_a9 (f_neR g_a9 g_x (by decide)))
    have g_a10 : h_23 a10 = some (51, 0, .inl ((G.2.1 1), 300, .inr (.inl (fun i => lN (va_up fw nf d i))))) := (congrFun eh_23 a10).symm.trans (fU_keep g_a10 (f_neR g_a10 g_x (by decide)))
    have g_a11 : h_23 a11 = some (52, 0, .inl ((G.2.1 1), 300, .inr (.inl (fun i => lN (va_up fv nf v i))))) := (congrFun eh_23 a11).symm.trans (fU_keep g_a11 (f_neR g_a11 g_x (by decide)))
    have g_x : h_23 x = some (40, 0, .inr (8, mo mf_22)) := (congrFun eh_23 x).symm.trans (fU_self _ _ _)
    refine lv_iconst (v := 1) hx hb d_MO_fact_170 (by decide) ?_
    exact f_zret C hr rfl hI ⟨rfl, mf_22, g_x, fun j h1 h2 => (congrFun emf_22 j).symm.trans ((va_up_ne _ _ h2).trans ((congrFun emf_19 j).symm.trans (va_up_ne _ _ h1))), ⟨a7, a8, a9, a10, a11, ⟨v_7, v_8, v_9, v_10, v_11, v_12⟩, ⟨g_a7, g_a8, g_a9, g_a10, g_a11⟩, by omega, up_lt bfl blo, up_lt bfk bki, up_le bfd bd, up_le bfw bd, fun i => by unfold va_up; split; exact bv; exact bfv0 i⟩, by rw [v_13]; congr 2; omega, hF⟩ hX (Nat.le_refl _) (Nat.le_refl _) d_MO_fact_171
  · have c_21 : ¬ d ≤ la := fun q => c_21 ((pk_lLE (a := d) (b := la) (by omega) (by omega)).mpr q)
    refine lv_lload_n hx hb d_MO_fact_159 rfl (lv_at hl 4 rfl) ?_
    refine lv_goto (tgt := 167) hx hb d_MO_fact_160 (by decide) ?_
    refine f_put (C := "DutyRulesModel") (T := T_MO) (N := 40) (fs' := mo (va_up mf_19 13 (.long (lN d)))) (v := .long (lN d)) hx hb (fun w q => hT w (s_MO w q)) t_MO k_MO n_MO hown hK hI g_x (by decide) rfl 13 (by decide) (hT _ w_822) (fun _ q => q) rfl rfl rfl (by rw [mo_len]; decide) (mo_set _) d_MO_fact_167 (fun H locs hI => ?_)
    generalize emf_24 : va_up mf_19 13 (.long (lN d)) = mf_24 at hI
    have v_7 : mf_24 7 = .ref a7 := (congrFun emf_24 7).symm.trans ((va_up_ne _ _ (by decide)).trans v_7)
    have v_8 : mf_24 8 = .ref a8 := (congrFun emf_24 8).symm.trans ((va_up_ne _ _ (by decide)).trans v_8)
    have v_9 : mf_24 9 = .ref a9 := (congrFun emf_24 9).symm.trans ((va_up_ne _ _ (by decide)).trans v_9)
    have v_10 : mf_24 10 = .ref a10 := (congrFun emf_24 10).symm.trans ((va_up_ne _ _ (by decide)).trans v_10)
    have v_11 : mf_24 11 = .ref a11 := (congrFun emf_24 11).symm.trans ((va_up_ne _ _ (by decide)).trans v_11)
    have v_12 : mf_24 12 = .int (nI (nf + 1)) := (congrFun emf_24 12).symm.trans ((va_up_ne _ _ (by decide)).trans v_12)
    have v_13 : mf_24 13 = .long (lN d) := (congrFun emf_24 13).symm.trans (va_up_self _ _ _)
    generalize eh_25 : fU h_20 x (40, 0, .inr (8, mo mf_24)) = h_25 at hI
    have hX := hX.set (e := .inr (8, mo mf_24)) g_x (by decide); rw [eh_25] at hX
    have hF := hF.set (e := .inr (8, mo mf_24)) g_x (by decide); rw [eh_25] at hF
    have g_a7 : h_25 a7 = some (48, 0, .inl ((G.2.1 0), 300, .inl (fun i => nI (va_up fl nf lo i)))) := (congrFun eh_25 a7).symm.trans (fU_keep g_a7 (f_neR g_a7 g_x (by decide)))
    have g_a8 : h_25 a8 = some (49, 0, .inl ((G.2.1 0), 300, .inl (fun i => nI (va_up fk nf ki i)))) := (congrFun eh_25 a8).symm.trans (fU_keep g_a8 (f_neR g_a8 g_x (by decide)))
    have g_a9 : h_25 a9 = some (50, 0, .inl ((G.2.1 1), 300, .inr (.inl (fun i => lN (va_up fd nf d i))))) := (congrFun eh_25 a9).symm.trans (fU_keep g_a9 (f_neR g_a9 g_x (by decide)))
    have g_a10 : h_25 a10 = some (51, 0, .inl ((G.2.1 1), 300, .inr (.inl (fun i => lN (va_up fw nf d i))))) := (congrFun eh_25 a10).symm.trans (fU_keep g_a10 (f_neR g_a10 g_x (by decide)))
    have g_a11 : h_25 a11 = some (52, 0, .inl ((G.2.1 1), 300, .inr (.inl (fun i => lN (va_up fv nf v i))))) := (congrFun eh_25 a11).symm.trans (fU_keep g_a11 (f_neR g_a11 g_x (by decide)))
    have g_x : h_25 x = some (40, 0, .inr (8, mo mf_24)) := (congrFun eh_25 x).symm.trans (fU_self _ _ _)
    refine lv_iconst (v := 1) hx hb d_MO_fact_170 (by decide) ?_
    exact f_zret C hr rfl hI ⟨rfl, mf_24, g_x, fun j h1 h2 => (congrFun emf_24 j).symm.trans ((va_up_ne _ _ h2).trans ((congrFun emf_19 j).symm.trans (va_up_ne _ _ h1))), ⟨a7, a8, a9, a10, a11, ⟨v_7, v_8, v_9, v_10, v_11, v_12⟩, ⟨g_a7, g_a8, g_a9, g_a10, g_a11⟩, by omega, up_lt bfl blo, up_lt bfk bki, up_le bfd bd, up_le bfw bd, fun i => by unfold va_up; split; exact bv; exact bfv0 i⟩, by rw [v_13]; congr 2; omega, hF⟩ hX (Nat.le_refl _) (Nat.le_refl _) d_MO_fact_171
