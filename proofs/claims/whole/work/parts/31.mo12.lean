theorem gm_MO_returned : gM y_MO_returned b_MO_returned 8 (some .int) 1 := ⟨w_1078, w_10, ⟨by decide, by decide⟩, by decide +kernel⟩
set_option maxHeartbeats 4000000 in
set_option maxRecDepth 100000 in
/-- MO_returned  -/
theorem c_MO_returned_no (l : Launch) (G : gG) (h : fH) (sz : Nat) (x : Nat) (mo1 : Int32) (hbad : mo1 < 0 ∨ 3001 ≤ mo1) : cM l y_MO_returned b_MO_returned 8 (some .int) { frames := 2, cells := 0, slots := 0, locals := 73 } G [.ref x, .int mo1] h sz (cQi G h sz (fun r h' => r = -1 ∧ h' = h)) := by
  refine f_start (by decide) (Nat.le_of_ble_eq_true rfl) ?_
  intro p e s m below meth c ls C hr hsz hI hl
  obtain ⟨hx, hb, hml, hown, hnm, hlk, hT, hG, hZ⟩ := id C
  have hK := hG.1
  have hX : fX h sz h := fX.rf
  have hl : lv_has ls 8 [(0, .ref x), (1, .int mo1)] := hl
  refine lv_iload_n hx hb d_MO_returned_0 rfl (lv_at hl 1 rfl) ?_
  refine f_calli hI (f_runS C hI (c_MO_isMonth l G h _ mo1) gm_MO_isMonth w_1067 w_1066 rfl hl.1 rfl (Nat.le_of_ble_eq_true rfl) ⟨Nat.le_of_ble_eq_true rfl, Nat.le_of_ble_eq_true rfl⟩ d_MO_returned_1 ⟨Nat.le_of_ble_eq_true rfl, Nat.le_of_ble_eq_true rfl⟩) (fun r_1 h8 H9 locs hp9 hX9 hz9 hI => ?_)
  obtain ⟨rfl, e9⟩ := hp9
  rw [e9] at hI
  clear hX9 e9
  rw [rng_bad hbad]
  refine lv_if_ne (tgt := 9) hx hb d_MO_returned_4 (by decide) (fun c_2 => absurd (by decide) c_2) (fun c_2 => ?_)
  refine lv_iconst (v := (-1)) hx hb d_MO_returned_7 (by decide) ?_
  exact f_iret C hr hI ⟨rfl, rfl⟩ hX (Nat.le_refl _) (Nat.le_refl _) d_MO_returned_8
set_option maxHeartbeats 4000000 in
set_option maxRecDepth 100000 in
/-- MO_returned  -/
theorem c_MO_returned_ok (l : Launch) (G : gG) (h : fH) (sz : Nat) (x mn : Nat) (mf : Nat → Value) (g_x : h x = some (40, 0, .inr (8, mo mf))) (nf : Nat) (fl fk fd fw fv : Nat → Nat) (hFc : mFc G h mf nf fl fk fd fw fv) (ne : Nat) (ef rr rm : Nat → Nat) (hEd : mEd G h mf ne ef rr rm) (hS0 : mS0 G h mf) (th du wr : Nat → Nat) (rn : Nat) (rl : Nat → Nat) (rD rM : Nat → Int64) (hRt : mRt G h mf th du wr rn rl rD rM) (la : Nat) (v_13 : mf 13 = .long (lN la)) (bla : la ≤ 100000) (bm : mn ≤ 3000) : cM l y_MO_returned b_MO_returned 8 (some .int) { frames := 2, cells := 0, slots := 0, locals := 73 } G [.ref x, .int (nI mn)] h sz (cQi G h sz (fun r h' => ∃ (th2 du2 : Nat → Nat) (rn2 : Nat) (rl2 : Nat → Nat) (rD2 rM2 : Nat → Int64), rtS (fun l => hLt fl fk fd l mn nf) (fun l => decide ((rk (mK nf fl fk fd fw fv l (30 * mn + 29) la) (mE ne ef rr rm (30 * mn + 29))).1 = -1)) (fun l => (rk (mK nf fl fk fd fw fv l (30 * mn + 29) la) (mE ne ef rr rm (30 * mn + 29))).2.2.2 / CT) mn (th, du, 0, rl, rD, rM) 30 = (th2, du2, rn2, rl2, rD2, rM2) ∧ r = nI rn2 ∧ ∃ mf', h' x = some (40, 0, .inr (8, mo mf')) ∧ (∀ j, j < 14 ∨ (20 < j ∧ j < 30) ∨ 30 < j → mf' j = mf j) ∧ mS0 G h' mf' ∧ mRt G h' mf' th2 du2 (va_up wr mn 1) rn2 rl2 rD2 rM2 ∧ fF (inR [40, 56, 57, 58, 68, 69, 70, 72, 73, 74]) h h')) := by
  refine f_start (by decide) (Nat.le_of_ble_eq_true rfl) ?_
  intro p e s m below meth c ls C hr hsz hI hl
  obtain ⟨hx, hb, hml, hown, hnm, hlk, hT, hG, hZ⟩ := id C
  have hK := hG.1
  have hX : fX h sz h := fX.rf
  have hl : lv_has ls 8 [(0, .ref x), (1, .int (nI mn))] := hl
  obtain ⟨_, _, _, _, _, bne, brm, bef, brr, brk⟩ := id hEd
  obtain ⟨_, _, _, _, _, _, _, bnf, bfl, bfk, bfd, bfw, bfv0⟩ := id hFc
  have hz0 := hI.2.2.2.1
  have hm1 : ∀ j, j < 14 ∨ (20 < j ∧ j < 30) ∨ 30 < j → mf j = mf j := fun _ _ => rfl
  have hF : fF (inR [40, 56, 57, 58, 68, 69, 70, 72, 73, 74]) h h := fF.rf
  obtain ⟨a27, a28, a29, a31, a32, a33, ⟨v_27, v_28, v_29, v_30, v_31, v_32, v_33⟩, ⟨g_a27, g_a28, g_a29, g_a31, g_a32, g_a33⟩, brn, bth, bdu, bwr, brl⟩ := id hRt
  have LOOP : ∀ (k n : Nat), n + k = 30 → ∀ (th1 du1 : Nat → Nat) (rn1 : Nat) (rl1 : Nat → Nat) (rD1 rM1 : Nat → Int64), rtS (fun l => hLt fl fk fd l mn nf) (fun l => decide ((rk (mK nf fl fk fd fw fv l (30 * mn + 29) la) (mE ne ef rr rm (30 * mn + 29))).1 = -1)) (fun l => (rk (mK nf fl fk fd fw fv l (30 * mn + 29) la) (mE ne ef rr rm (30 * mn + 29))).2.2.2 / CT) mn (th, du, 0, rl, rD, rM) n = (th1, du1, rn1, rl1, rD1, rM1) → rn1 ≤ n → ∀ (h1 : fH) (mf1 : Nat → Value) (H : Heap) (locs : List Loc), h1 x = some (40, 0, .inr (8, mo mf1)) → mf1 13 = .long (lN la) → mFc G h1 mf1 nf fl fk fd fw fv → mEd G h1 mf1 ne ef rr rm → mS0 G h1 mf1 → mRt G h1 mf1 th1 du1 wr rn1 rl1 rD1 rM1 → (∀ j, j < 14 ∨ (20 < j ∧ j < 30) ∨ 30 < j → mf1 j = mf j) → fF (inR [40, 56, 57, 58, 68, 69, 70, 72, 73, 74]) h h1 → fX h sz h1 → fI G.1 g_cl (fA h sz) s.heap h1 H locs → ∀ ls : Array Slot, lv_has ls 8 [(0, .ref x), (1, .int (nI mn)), (2, .int (nI n))] → W p l e { frames := 2, cells := 0, slots := 0, locals := 73 } s m ([.ref x, .int (nI mn)] : List Value).toArray below meth c H locs 0 0 (MQ below (cQi G h sz (fun r h' => ∃ (th2 du2 : Nat → Nat) (rn2 : Nat) (rl2 : Nat → Nat) (rD2 rM2 : Nat → Int64), rtS (fun l => hLt fl fk fd l mn nf) (fun l => decide ((rk (mK nf fl fk fd fw fv l (30 * mn + 29) la) (mE ne ef rr rm (30 * mn + 29))).1 = -1)) (fun l => (rk (mK nf fl fk fd fw fv l (30 * mn + 29) la) (mE ne ef rr rm (30 * mn + 29))).2.2.2 / CT) mn (th, du, 0, rl, rD, rM) 30 = (th2, du2, rn2, rl2, rD2, rM2) ∧ r = nI rn2 ∧ ∃ mf', h' x = some (40, 0, .inr (8, mo mf')) ∧ (∀ j, j < 14 ∨ (20 < j ∧ j < 30) ∨ 30 < j → mf' j = mf j) ∧ mS0 G h' mf' ∧ mRt G h' mf' th2 du2 (va_up wr mn 1) rn2 rl2 rD2 rM2 ∧ fF (inR [40, 56, 57, 58, 68, 69, 70, 72, 73, 74]) h h')) ([.ref x, .int (nI mn)] : List Value).toArray s 0 0 (fA h sz)) (F0 m 16 ls []) := by
    intro k
    induction k with
    | zero =>
      intro n hn th1 du1 rn1 rl1 rD1 rM1 hRS hrn1 h1 mf1 H locs g_x v_13 hFc hEd hS0 hRt hm1 hF hX hI ls hl
      have hn2 : 30 = n := by omega
      subst hn2
      obtain ⟨a27, a28, a29, a31, a32, a33, ⟨v_27, v_28, v_29, v_30, v_31, v_32, v_33⟩, ⟨g_a27, g_a28, g_a29, g_a31, g_a32, g_a33⟩, brn1, bth1, bdu1, bwr1, brl1⟩ := id hRt
      refine lv_iload_n hx hb d_MO_returned_16 rfl (lv_at hl 2 rfl) ?_
      refine lv_bipush (v := 30) hx hb d_MO_returned_17 (by decide) ?_
      refine lv_icmp_ge (tgt := 191) hx hb d_MO_returned_19 (by decide) (fun c_1 => ?_) (fun c_1 => absurd (by decide) c_1)
      refine lv_aload_n hx hb d_MO_returned_191 rfl (lv_at hl 0 rfl) ?_
      refine f_get (C := "DutyRulesModel") (T := T_MO) (N := 40) hx hb (fun w q => hT w (s_MO w q)) hown hK hI g_x rfl 29 (by decide) (hT _ w_838) (fun _ q => q) (mo_get (by decide) v_29) d_MO_returned_192 ?_
      refine lv_iload_n hx hb d_MO_returned_195 rfl (lv_at hl 1 rfl) ?_
      refine lv_iconst (v := 1) hx hb d_MO_returned_196 (by decide) ?_
      refine f_zastn (k := mn) (f' := (fun i => nI (va_up wr mn 1 i))) hx hb hI g_a29 (by decide) (fT.ofK hK (t0 := 2) rfl) (by omega) (by omega) (up_z wr mn) d_MO_returned_197 (fun H locs hI => ?_)
      generalize eh_2 : fU h1 a29 (70, 0, .inl ((G.2.1 2), 3001, .inl (fun i => nI (va_up wr mn 1 i)))) = h_2 at hI
      have hX := hX.set (e := .inl ((G.2.1 2), 3001, .inl (fun i => nI (va_up wr mn 1 i)))) g_a29 (by decide); rw [eh_2] at hX
      have hF := hF.set (e := .inl ((G.2.1 2), 3001, .inl (fun i => nI (va_up wr mn 1 i)))) g_a29 (by decide); rw [eh_2] at hF
      have g_a27 : h_2 a27 = some (68, 0, .inl ((G.2.1 0), 90030, .inl (fun i => nI (th1 i)))) := (congrFun eh_2 a27).symm.trans (fU_keep g_a27 (f_neR g_a27 g_a29 (by decide)))
      have g_a28 : h_2 a28 = some (69, 0, .inl ((G.2.1 1), 90030, .inr (.inl (fun i => lN (du1 i))))) := (congrFun eh_2 a28).symm.trans (fU_keep g_a28 (f_neR g_a28 g_a29 (by decide)))
      have g_a31 : h_2 a31 = some (72, 0, .inl ((G.2.1 0), 30, .inl (fun i => nI (rl1 i)))) := (congrFun eh_2 a31).symm.trans (fU_keep g_a31 (f_neR g_a31 g_a29 (by decide)))
      have g_a32 : h_2 a32 = some (73, 0, .inl ((G.2.1 1), 30, .inr (.inl rD1))) := (congrFun eh_2 a32).symm.trans (fU_keep g_a32 (f_neR g_a32 g_a29 (by decide)))
      have g_a33 : h_2 a33 = some (74, 0, .inl ((G.2.1 1), 30, .inr (.inl rM1))) := (congrFun eh_2 a33).symm.trans (fU_keep g_a33 (f_neR g_a33 g_a29 (by decide)))
      have g_x : h_2 x = some (40, 0, .inr (8, mo mf1)) := (congrFun eh_2 x).symm.trans (fU_keep g_x (f_neR g_x g_a29 (by decide)))
      have hW9 : fF (inR [70]) h1 h_2 := by rw [← eh_2]; exact fF.rf.set g_a29 (by decide)
      have g_a29 : h_2 a29 = some (70, 0, .inl ((G.2.1 2), 3001, .inl (fun i => nI (va_up wr mn 1 i)))) := (congrFun eh_2 a29).symm.trans (fU_self _ _ _)
      have hFc := mFc.keep hFc (fun _ _ _ => rfl) hW9 (by decide)
      have hEd := mEd.keep hEd (fun _ _ _ => rfl) hW9 (by decide)
      have hS0 := mS0.keep hS0 (fun _ _ _ => rfl) hW9 (by decide)
      refine lv_aload_n hx hb d_MO_returned_198 rfl (lv_at hl 0 rfl) ?_
      refine f_get (C := "DutyRulesModel") (T := T_MO) (N := 40) hx hb (fun w q => hT w (s_MO w q)) hown hK hI g_x rfl 30 (by decide) (hT _ w_839) (fun _ q => q) (mo_get (by decide) v_30) d_MO_returned_199 ?_
      exact f_iret C hr hI ⟨th1, du1, rn1, rl1, rD1, rM1, hRS, rfl, mf1, g_x, hm1, hS0, ⟨a27, a28, a29, a31, a32, a33, ⟨v_27, v_28, v_29, v_30, v_31, v_32, v_33⟩, ⟨g_a27, g_a28, g_a29, g_a31, g_a32, g_a33⟩, (by omega), bth1, bdu1, (up_le bwr (Nat.le_refl 1)), brl1⟩, hF⟩ hX (Nat.le_refl _) (Nat.le_refl _) d_MO_returned_202
    | succ k ih =>
      intro n hn th1 du1 rn1 rl1 rD1 rM1 hRS hrn1 h1 mf1 H locs g_x v_13 hFc hEd hS0 hRt hm1 hF hX hI ls hl
      have ih : ∀ n : Nat, n + k = 30 → ∀ (th1 du1 : Nat → Nat) (rn1 : Nat) (rl1 : Nat → Nat) (rD1 rM1 : Nat → Int64), rtS (fun l => hLt fl fk fd l mn nf) (fun l => decide ((rk (mK nf fl fk fd fw fv l (30 * mn + 29) la) (mE ne ef rr rm (30 * mn + 29))).1 = -1)) (fun l => (rk (mK nf fl fk fd fw fv l (30 * mn + 29) la) (mE ne ef rr rm (30 * mn + 29))).2.2.2 / CT) mn (th, du, 0, rl, rD, rM) n = (th1, du1, rn1, rl1, rD1, rM1) → rn1 ≤ n → ∀ (h1 : fH) (mf1 : Nat → Value) (H : Heap) (locs : List Loc), h1 x = some (40, 0, .inr (8, mo mf1)) → mf1 13 = .long (lN la) → mFc G h1 mf1 nf fl fk fd fw fv → mEd G h1 mf1 ne ef rr rm → mS0 G h1 mf1 → mRt G h1 mf1 th1 du1 wr rn1 rl1 rD1 rM1 → (∀ j, j < 14 ∨ (20 < j ∧ j < 30) ∨ 30 < j → mf1 j = mf j) → fF (inR [40, 56, 57, 58, 68, 69, 70, 72, 73, 74]) h h1 → fX h sz h1 → fI G.1 g_cl (fA h sz) s.heap h1 H locs → ∀ ls : Array Slot, lv_has ls 8 [(0, .ref x), (1, .int (nI mn)), (2, .int (nI n))] → W p l e { frames := 2, cells := 0, slots := 0, locals := 73 } s m ([.ref x, .int (nI mn)] : List Value).toArray below meth c H locs 0 0 (MQ below (cQi G h sz (fun r h' => ∃ (th2 du2 : Nat → Nat) (rn2 : Nat) (rl2 : Nat → Nat) (rD2 rM2 : Nat → Int64), rtS (fun l => hLt fl fk fd l mn nf) (fun l => decide ((rk (mK nf fl fk fd fw fv l (30 * mn + 29) la) (mE ne ef rr rm (30 * mn + 29))).1 = -1)) (fun l => (rk (mK nf fl fk fd fw fv l (30 * mn + 29) la) (mE ne ef rr rm (30 * mn + 29))).2.2.2 / CT) mn (th, du, 0, rl, rD, rM) 30 = (th2, du2, rn2, rl2, rD2, rM2) ∧ r = nI rn2 ∧ ∃ mf', h' x = some (40, 0, .inr (8, mo mf')) ∧ (∀ j, j < 14 ∨ (20 < j ∧ j < 30) ∨ 30 < j → mf' j = mf j) ∧ mS0 G h' mf' ∧ mRt G h' mf' th2 du2 (va_up wr mn 1) rn2 rl2 rD2 rM2 ∧ fF (inR [40, 56, 57, 58, 68, 69, 70, 72, 73, 74]) h h')) ([.ref x, .int (nI mn)] : List Value).toArray s 0 0 (fA h sz)) (F0 m 16 ls []) := ih
      have hn2 : n < 30 := by omega
      have hz7 := hI.2.2.2.1
      obtain ⟨a27, a28, a29, a31, a32, a33, ⟨v_27, v_28, v_29, v_30, v_31, v_32, v_33⟩, ⟨g_a27, g_a28, g_a29, g_a31, g_a32, g_a33⟩, brn1, bth1, bdu1, bwr1, brl1⟩ := id hRt
      refine lv_iload_n hx hb d_MO_returned_16 rfl (lv_at hl 2 rfl) ?_
      refine lv_bipush (v := 30) hx hb d_MO_returned_17 (by decide) ?_
      refine lv_icmp_ge (tgt := 191) hx hb d_MO_returned_19 (by decide) (fun c_3 => absurd c_3 (fun q => absurd ((n_le (a := 30) (b := n) (by omega) (by omega)).mp q) (by omega))) (fun c_3 => ?_)
      refine lv_iload_n hx hb d_MO_returned_22 rfl (lv_at hl 1 rfl) ?_
      refine lv_bipush (v := 30) hx hb d_MO_returned_23 (by decide) ?_
      refine lv_imul hx hb d_MO_returned_25 ?_
      refine f_asi (pk_mul mn 30) ?_
      refine lv_iload_n hx hb d_MO_returned_26 rfl (lv_at hl 2 rfl) ?_
      refine lv_iadd hx hb d_MO_returned_27 ?_
      refine f_asi (nI_add (mn * 30) n) ?_
      refine lv_istore_n (lv' := [(3, .int (nI ((mn * 30) + n))), (0, .ref x), (1, .int (nI mn)), (2, .int (nI n))]) hx hb d_MO_returned_28 rfl hl (by decide) rfl (fun ls hl => ?_)
      refine lv_aload_n hx hb d_MO_returned_29 rfl (lv_at hl 1 rfl) ?_
      refine f_get (C := "DutyRulesModel") (T := T_MO) (N := 40) hx hb (fun w q => hT w (s_MO w q)) hown hK hI g_x rfl 27 (by decide) (hT _ w_836) (fun _ q => q) (mo_get (by decide) v_27) d_MO_returned_30 ?_
      refine lv_iload_n hx hb d_MO_returned_33 rfl (lv_at hl 0 rfl) ?_
      refine f_ialdn (k := ((mn * 30) + n)) (v := (nI (th1 ((mn * 30) + n)))) hx hb hI g_a27 (fT.ofK hK (t0 := 0) rfl) (by omega) (by omega) rfl d_MO_returned_34 ?_
      refine lv_istore (lv' := [(4, .int (nI (th1 ((mn * 30) + n)))), (3, .int (nI ((mn * 30) + n))), (0, .ref x), (1, .int (nI mn)), (2, .int (nI n))]) hx hb d_MO_returned_35 hl (by decide) rfl (fun ls hl => ?_)
      refine lv_aload_n hx hb d_MO_returned_37 rfl (lv_at hl 2 rfl) ?_
      refine f_get (C := "DutyRulesModel") (T := T_MO) (N := 40) hx hb (fun w q => hT w (s_MO w q)) hown hK hI g_x rfl 28 (by decide) (hT _ w_837) (fun _ q => q) (mo_get (by decide) v_28) d_MO_returned_38 ?_
      refine lv_iload_n hx hb d_MO_returned_41 rfl (lv_at hl 1 rfl) ?_
      refine f_laldn (k := ((mn * 30) + n)) (v := (lN (du1 ((mn * 30) + n)))) hx hb hI g_a28 (fT.ofK hK (t0 := 1) rfl) (by omega) (by omega) rfl d_MO_returned_42 ?_
      refine lv_lstore (lv' := [(5, .long (lN (du1 ((mn * 30) + n)))), (4, .int (nI (th1 ((mn * 30) + n)))), (3, .int (nI ((mn * 30) + n))), (0, .ref x), (1, .int (nI mn)), (2, .int (nI n))]) hx hb d_MO_returned_43 hl (by decide) rfl (fun ls hl => ?_)
      refine lv_aload_n hx hb d_MO_returned_45 rfl (lv_at hl 3 rfl) ?_
      refine f_get (C := "DutyRulesModel") (T := T_MO) (N := 40) hx hb (fun w q => hT w (s_MO w q)) hown hK hI g_x rfl 27 (by decide) (hT _ w_836) (fun _ q => q) (mo_get (by decide) v_27) d_MO_returned_46 ?_
      refine lv_iload_n hx hb d_MO_returned_49 rfl (lv_at hl 2 rfl) ?_
      refine lv_iconst (v := 0) hx hb d_MO_returned_50 (by decide) ?_
      refine f_iastn (k := ((mn * 30) + n)) (f' := (fun i => nI (va_up th1 ((mn * 30) + n) 0 i))) hx hb hI g_a27 (by decide) (fT.ofK hK (t0 := 0) rfl) (by omega) (by omega) (up_i th1 ((mn * 30) + n) 0) d_MO_returned_51 (fun H locs hI => ?_)
      generalize eh_4 : fU h1 a27 (68, 0, .inl ((G.2.1 0), 90030, .inl (fun i => nI (va_up th1 ((mn * 30) + n) 0 i)))) = h_4 at hI
      have hX := hX.set (e := .inl ((G.2.1 0), 90030, .inl (fun i => nI (va_up th1 ((mn * 30) + n) 0 i)))) g_a27 (by decide); rw [eh_4] at hX
      have hF := hF.set (e := .inl ((G.2.1 0), 90030, .inl (fun i => nI (va_up th1 ((mn * 30) + n) 0 i)))) g_a27 (by decide); rw [eh_4] at hF
      have g_a28 : h_4 a28 = some (69, 0, .inl ((G.2.1 1), 90030, .inr (.inl (fun i => lN (du1 i))))) := (congrFun eh_4 a28).symm.trans (fU_keep g_a28 (f_neR g_a28 g_a27 (by decide)))
      have g_a29 : h_4 a29 = some (70, 0, .inl ((G.2.1 2), 3001, .inl (fun i => nI (wr i)))) := (congrFun eh_4 a29).symm.trans (fU_keep g_a29 (f_neR g_a29 g_a27 (by decide)))
      have g_a31 : h_4 a31 = some (72, 0, .inl ((G.2.1 0), 30, .inl (fun i => nI (rl1 i)))) := (congrFun eh_4 a31).symm.trans (fU_keep g_a31 (f_neR g_a31 g_a27 (by decide)))
      have g_a32 : h_4 a32 = some (73, 0, .inl ((G.2.1 1), 30, .inr (.inl rD1))) := (congrFun eh_4 a32).symm.trans (fU_keep g_a32 (f_neR g_a32 g_a27 (by decide)))
      have g_a33 : h_4 a33 = some (74, 0, .inl ((G.2.1 1), 30, .inr (.inl rM1))) := (congrFun eh_4 a33).symm.trans (fU_keep g_a33 (f_neR g_a33 g_a27 (by decide)))
      have g_x : h_4 x = some (40, 0, .inr (8, mo mf1)) := (congrFun eh_4 x).symm.trans (fU_keep g_x (f_neR g_x g_a27 (by decide)))
      have hW9 : fF (inR [68]) h1 h_4 := by rw [← eh_4]; exact fF.rf.set g_a27 (by decide)
      have g_a27 : h_4 a27 = some (68, 0, .inl ((G.2.1 0), 90030, .inl (fun i => nI (va_up th1 ((mn * 30) + n) 0 i)))) := (congrFun eh_4 a27).symm.trans (fU_self _ _ _)
      have hFc := mFc.keep hFc (fun _ _ _ => rfl) hW9 (by decide)
      have hEd := mEd.keep hEd (fun _ _ _ => rfl) hW9 (by decide)
      have hS0 := mS0.keep hS0 (fun _ _ _ => rfl) hW9 (by decide)
      refine lv_aload_n hx hb d_MO_returned_52 rfl (lv_at hl 3 rfl) ?_
      refine lv_iload_n hx hb d_MO_returned_53 rfl (lv_at hl 5 rfl) ?_
      refine lv_iload_n hx hb d_MO_returned_54 rfl (lv_at hl 4 rfl) ?_
      refine f_calli hI (f_runV C hI (c_MO_hasLitres l G h_4 _ x n mn mf1 g_x nf fl fk fd fw fv hFc (by omega) (by omega)) gm_MO_hasLitres w_1081 p_MO_hasLitres w_1079 g_x rfl rfl rfl hl.1 rfl (Nat.le_of_ble_eq_true rfl) ⟨Nat.le_of_ble_eq_true rfl, Nat.le_of_ble_eq_true rfl⟩ d_MO_returned_55 ⟨Nat.le_of_ble_eq_true rfl, Nat.le_of_ble_eq_true rfl⟩) (fun r_5 h8 H9 locs hp9 hX9 hz9 hI => ?_)
      obtain ⟨rfl, e9⟩ := hp9
      rw [e9] at hI
      clear hX9 e9
      by_cases hL : hLt fl fk fd n mn nf = true
      · refine f_asi (if_pos hL) ?_
        obtain ⟨_, _, _, _, _, _, _, hSt⟩ := id hS0
        have hRt : mRt G _ mf1 (va_up th1 (mn * 30 + n) 0) du1 wr rn1 rl1 rD1 rM1 := ⟨a27, a28, a29, a31, a32, a33, ⟨v_27, v_28, v_29, v_30, v_31, v_32, v_33⟩, ⟨g_a27, g_a28, g_a29, g_a31, g_a32, g_a33⟩, (by omega), (up_le bth1 (Nat.zero_le _)), bdu1, bwr, brl1⟩
        refine lv_if_eq (tgt := 185) hx hb d_MO_returned_58 (by decide) (fun c_6 => absurd c_6 (by decide)) (fun c_6 => ?_)
        refine lv_aload_n hx hb d_MO_returned_61 rfl (lv_at hl 3 rfl) ?_
        refine lv_iload_n hx hb d_MO_returned_62 rfl (lv_at hl 5 rfl) ?_
        refine lv_iload_n hx hb d_MO_returned_63 rfl (lv_at hl 4 rfl) ?_
        refine f_calll hI (f_runS C hI (c_MO_lastOf l G h_4 _ (nI mn)) gm_MO_lastOf w_1071 w_1070 rfl hl.1 rfl (Nat.le_of_ble_eq_true rfl) ⟨Nat.le_of_ble_eq_true rfl, Nat.le_of_ble_eq_true rfl⟩ d_MO_returned_64 ⟨Nat.le_of_ble_eq_true rfl, Nat.le_of_ble_eq_true rfl⟩) (fun r_7 h8 H9 locs hp9 hX9 hz9 hI => ?_)
        obtain ⟨rfl, e9⟩ := hp9
        rw [e9] at hI
        clear hX9 e9
        refine f_asl (lastOf_n (m := mn) (by omega)) ?_
        refine lv_aload_n hx hb d_MO_returned_67 rfl (lv_at hl 3 rfl) ?_
        refine f_get (C := "DutyRulesModel") (T := T_MO) (N := 40) hx hb (fun w q => hT w (s_MO w q)) hown hK hI g_x rfl 13 (by decide) (hT _ w_822) (fun _ q => q) (mo_get (by decide) v_13) d_MO_returned_68 ?_
        have hz8 := hI.2.2.2.1
        refine f_calli hI (f_runV C hI (c_MO_reckon l G h_4 _ x n (30 * mn + 29) la mf1 g_x nf fl fk fd fw fv hFc ne ef rr rm hEd _ _ _ _ _ _ _ hSt hn2 (by omega) bla) gm_MO_reckon w_1020 p_MO_reckon w_1018 g_x rfl rfl rfl hl.1 rfl (Nat.le_of_ble_eq_true rfl) ⟨Nat.le_of_ble_eq_true rfl, Nat.le_of_ble_eq_true rfl⟩ d_MO_returned_71 ⟨Nat.le_of_ble_eq_true rfl, Nat.le_of_ble_eq_true rfl⟩) (fun r_8 h9 H9 locs hp9 hX9 hz9 hI => ?_)
        obtain ⟨rfl, mf_9, g_x, hm9, hSd, hF9⟩ := hp9
        have hFc := hFc.keep (fun j h1 h2 => hm9 j (Or.inl (Nat.lt_of_le_of_lt h2 (by decide)))) hF9 (by decide)
        have hEd := hEd.keep (fun j h1 h2 => hm9 j (Or.inl (Nat.lt_of_le_of_lt h2 (by decide)))) hF9 (by decide)
        have hRt := hRt.keep (fun j h1 h2 => hm9 j (Or.inr (Nat.lt_of_lt_of_le (by decide) h1))) hF9 (by decide)
        have hm1 : ∀ j, j < 14 ∨ (20 < j ∧ j < 30) ∨ 30 < j → mf_9 j = mf j := fun j hj => (hm9 j (hj.imp id (fun q => q.elim (fun z => z.1) (fun z => Nat.lt_trans (by decide) z)))).trans (hm1 j hj)
        have hF := hF.tr (hF9.mono (fun r o q => List.mem_append_left [68, 69, 70, 72, 73, 74] q))
        have hX := fX.tr (by omega) hX hX9
        have hbd : (rk (mK nf fl fk fd fw fv n (30 * mn + 29) la) (mE ne ef rr rm (30 * mn + 29))).2.2.2 ≤ 2100000000000000000 ∧ (rk (mK nf fl fk fd fw fv n (30 * mn + 29) la) (mE ne ef rr rm (30 * mn + 29))).2.2.1 ≤ 100000000 ∧ (rk (mK nf fl fk fd fw fv n (30 * mn + 29) la) (mE ne ef rr rm (30 * mn + 29))).2.1.length ≤ 5 := rk_bd (mK_ok bnf bfv0) (mE_ok bne brk)
        by_cases hk1 : (rk (mK nf fl fk fd fw fv n (30 * mn + 29) la) (mE ne ef rr rm (30 * mn + 29))).1 = -1
        · refine f_asi (if_pos hk1) ?_
          have hS0 := hSd.s0
          have v_13 : mf_9 13 = .long (lN la) := (hm9 13 (Or.inl (by decide))).trans v_13
          obtain ⟨a27, a28, a29, a31, a32, a33, ⟨v_27, v_28, v_29, v_30, v_31, v_32, v_33⟩, ⟨g_a27, g_a28, g_a29, g_a31, g_a32, g_a33⟩, brn2, bth2, bdu2, bwr1, brl2⟩ := id hRt
          obtain ⟨sl, sr, sc, hSt, hq⟩ := hSd
          obtain ⟨a15, a16, a17, ⟨v_14, v_15, v_16, v_17, v_18, v_19, v_20⟩, ⟨g_a15, g_a16, g_a17⟩⟩ := id hSt
          have hcq := q_ct hbd.1
          refine lv_istore (lv' := [(7, .int 1), (5, .long (lN (du1 ((mn * 30) + n)))), (4, .int (nI (th1 ((mn * 30) + n)))), (3, .int (nI ((mn * 30) + n))), (0, .ref x), (1, .int (nI mn)), (2, .int (nI n))]) hx hb d_MO_returned_74 hl (by decide) rfl (fun ls hl => ?_)
          refine lv_aload_n hx hb d_MO_returned_76 rfl (lv_at hl 4 rfl) ?_
          refine f_get (C := "DutyRulesModel") (T := T_MO) (N := 40) hx hb (fun w q => hT w (s_MO w q)) hown hK hI g_x rfl 27 (by decide) (hT _ w_836) (fun _ q => q) (mo_get (by decide) v_27) d_MO_returned_77 ?_
          refine lv_iload_n hx hb d_MO_returned_80 rfl (lv_at hl 3 rfl) ?_
          refine lv_iload hx hb d_MO_returned_81 (lv_at hl 0 rfl) ?_
          refine lv_if_eq (tgt := 90) hx hb d_MO_returned_83 (by decide) (fun c_10 => absurd c_10 (by decide)) (fun c_10 => ?_)
          refine lv_iconst (v := 1) hx hb d_MO_returned_86 (by decide) ?_
          refine lv_goto (tgt := 91) hx hb d_MO_returned_87 (by decide) ?_
          refine f_iastn (k := ((mn * 30) + n)) (f' := (fun i => nI (va_up (va_up th1 (mn * 30 + n) 0) ((mn * 30) + n) 1 i))) hx hb hI g_a27 (by decide) (fT.ofK hK (t0 := 0) rfl) (by omega) (by omega) (up_i (va_up th1 (mn * 30 + n) 0) ((mn * 30) + n) 1) d_MO_returned_91 (fun H locs hI => ?_)
          generalize eh_11 : fU h9 a27 (68, 0, .inl ((G.2.1 0), 90030, .inl (fun i => nI (va_up (va_up th1 (mn * 30 + n) 0) ((mn * 30) + n) 1 i)))) = h_11 at hI
          have hX := hX.set (e := .inl ((G.2.1 0), 90030, .inl (fun i => nI (va_up (va_up th1 (mn * 30 + n) 0) ((mn * 30) + n) 1 i)))) g_a27 (by decide); rw [eh_11] at hX
          have hF := hF.set (e := .inl ((G.2.1 0), 90030, .inl (fun i => nI (va_up (va_up th1 (mn * 30 + n) 0) ((mn * 30) + n) 1 i)))) g_a27 (by decide); rw [eh_11] at hF
          have g_x : h_11 x = some (40, 0, .inr (8, mo mf_9)) := (congrFun eh_11 x).symm.trans (fU_keep g_x (f_neR g_x g_a27 (by decide)))
          have g_a28 : h_11 a28 = some (69, 0, .inl ((G.2.1 1), 90030, .inr (.inl (fun i => lN (du1 i))))) := (congrFun eh_11 a28).symm.trans (fU_keep g_a28 (f_neR g_a28 g_a27 (by decide)))
          have g_a29 : h_11 a29 = some (70, 0, .inl ((G.2.1 2), 3001, .inl (fun i => nI (wr i)))) := (congrFun eh_11 a29).symm.trans (fU_keep g_a29 (f_neR g_a29 g_a27 (by decide)))
          have g_a31 : h_11 a31 = some (72, 0, .inl ((G.2.1 0), 30, .inl (fun i => nI (rl1 i)))) := (congrFun eh_11 a31).symm.trans (fU_keep g_a31 (f_neR g_a31 g_a27 (by decide)))
          have g_a32 : h_11 a32 = some (73, 0, .inl ((G.2.1 1), 30, .inr (.inl rD1))) := (congrFun eh_11 a32).symm.trans (fU_keep g_a32 (f_neR g_a32 g_a27 (by decide)))
          have g_a33 : h_11 a33 = some (74, 0, .inl ((G.2.1 1), 30, .inr (.inl rM1))) := (congrFun eh_11 a33).symm.trans (fU_keep g_a33 (f_neR g_a33 g_a27 (by decide)))
          have hW9 : fF (inR [68]) h9 h_11 := by rw [← eh_11]; exact fF.rf.set g_a27 (by decide)
          have g_a27 : h_11 a27 = some (68, 0, .inl ((G.2.1 0), 90030, .inl (fun i => nI (va_up (va_up th1 (mn * 30 + n) 0) ((mn * 30) + n) 1 i)))) := (congrFun eh_11 a27).symm.trans (fU_self _ _ _)
          have hFc := mFc.keep hFc (fun _ _ _ => rfl) hW9 (by decide)
          have hEd := mEd.keep hEd (fun _ _ _ => rfl) hW9 (by decide)
          have hS0 := mS0.keep hS0 (fun _ _ _ => rfl) hW9 (by decide)
          refine lv_aload_n hx hb d_MO_returned_92 rfl (lv_at hl 4 rfl) ?_
          refine f_get (C := "DutyRulesModel") (T := T_MO) (N := 40) hx hb (fun w q => hT w (s_MO w q)) hown hK hI g_x rfl 28 (by decide) (hT _ w_837) (fun _ q => q) (mo_get (by decide) v_28) d_MO_returned_93 ?_
          refine lv_iload_n hx hb d_MO_returned_96 rfl (lv_at hl 3 rfl) ?_
          refine lv_aload_n hx hb d_MO_returned_97 rfl (lv_at hl 4 rfl) ?_
          refine f_get (C := "DutyRulesModel") (T := T_MO) (N := 40) hx hb (fun w q => hT w (s_MO w q)) hown hK hI g_x rfl 20 (by decide) (hT _ w_829) (fun _ q => q) (mo_get (by decide) v_20) d_MO_returned_98 ?_
          refine lv_ldc2 (v := 100000000000) hx hb hown (hT _ w_1042) d_MO_returned_101 ?_
          refine lv_ldiv hx hb d_MO_returned_104 (l_ne0 (a := 100000000000) (by omega) (by omega)) ?_
          refine f_asl (pk_lDiv (a := (rk (mK nf fl fk fd fw fv n (30 * mn + 29) la) (mE ne ef rr rm (30 * mn + 29))).2.2.2) (b := 100000000000) (by omega) (by omega) (by omega)) ?_
          refine f_lastn (k := ((mn * 30) + n)) (f' := (fun i => lN (va_up du1 ((mn * 30) + n) ((rk (mK nf fl fk fd fw fv n (30 * mn + 29) la) (mE ne ef rr rm (30 * mn + 29))).2.2.2 / 100000000000) i))) hx hb hI g_a28 (by decide) (fT.ofK hK (t0 := 1) rfl) (by omega) (by omega) (up_l du1 ((mn * 30) + n) ((rk (mK nf fl fk fd fw fv n (30 * mn + 29) la) (mE ne ef rr rm (30 * mn + 29))).2.2.2 / 100000000000)) d_MO_returned_105 (fun H locs hI => ?_)
          generalize eh_12 : fU h_11 a28 (69, 0, .inl ((G.2.1 1), 90030, .inr (.inl (fun i => lN (va_up du1 ((mn * 30) + n) ((rk (mK nf fl fk fd fw fv n (30 * mn + 29) la) (mE ne ef rr rm (30 * mn + 29))).2.2.2 / 100000000000) i))))) = h_12 at hI
          have hX := hX.set (e := .inl ((G.2.1 1), 90030, .inr (.inl (fun i => lN (va_up du1 ((mn * 30) + n) ((rk (mK nf fl fk fd fw fv n (30 * mn + 29) la) (mE ne ef rr rm (30 * mn + 29))).2.2.2 / 100000000000) i))))) g_a28 (by decide); rw [eh_12] at hX
          have hF := hF.set (e := .inl ((G.2.1 1), 90030, .inr (.inl (fun i => lN (va_up du1 ((mn * 30) + n) ((rk (mK nf fl fk fd fw fv n (30 * mn + 29) la) (mE ne ef rr rm (30 * mn + 29))).2.2.2 / 100000000000) i))))) g_a28 (by decide); rw [eh_12] at hF
          have g_x : h_12 x = some (40, 0, .inr (8, mo mf_9)) := (congrFun eh_12 x).symm.trans (fU_keep g_x (f_neR g_x g_a28 (by decide)))
          have g_a27 : h_12 a27 = some (68, 0, .inl ((G.2.1 0), 90030, .inl (fun i => nI (va_up (va_up th1 (mn * 30 + n) 0) ((mn * 30) + n) 1 i)))) := (congrFun eh_12 a27).symm.trans (fU_keep g_a27 (f_neR g_a27 g_a28 (by decide)))
          have g_a29 : h_12 a29 = some (70, 0, .inl ((G.2.1 2), 3001, .inl (fun i => nI (wr i)))) := (congrFun eh_12 a29).symm.trans (fU_keep g_a29 (f_neR g_a29 g_a28 (by decide)))
          have g_a31 : h_12 a31 = some (72, 0, .inl ((G.2.1 0), 30, .inl (fun i => nI (rl1 i)))) := (congrFun eh_12 a31).symm.trans (fU_keep g_a31 (f_neR g_a31 g_a28 (by decide)))
          have g_a32 : h_12 a32 = some (73, 0, .inl ((G.2.1 1), 30, .inr (.inl rD1))) := (congrFun eh_12 a32).symm.trans (fU_keep g_a32 (f_neR g_a32 g_a28 (by decide)))
          have g_a33 : h_12 a33 = some (74, 0, .inl ((G.2.1 1), 30, .inr (.inl rM1))) := (congrFun eh_12 a33).symm.trans (fU_keep g_a33 (f_neR g_a33 g_a28 (by decide)))
          have hW9 : fF (inR [69]) h_11 h_12 := by rw [← eh_12]; exact fF.rf.set g_a28 (by decide)
          have g_a28 : h_12 a28 = some (69, 0, .inl ((G.2.1 1), 90030, .inr (.inl (fun i => lN (va_up du1 ((mn * 30) + n) ((rk (mK nf fl fk fd fw fv n (30 * mn + 29) la) (mE ne ef rr rm (30 * mn + 29))).2.2.2 / 100000000000) i))))) := (congrFun eh_12 a28).symm.trans (fU_self _ _ _)
          have hFc := mFc.keep hFc (fun _ _ _ => rfl) hW9 (by decide)
          have hEd := mEd.keep hEd (fun _ _ _ => rfl) hW9 (by decide)
          have hS0 := mS0.keep hS0 (fun _ _ _ => rfl) hW9 (by decide)
          refine lv_aload_n hx hb d_MO_returned_106 rfl (lv_at hl 4 rfl) ?_
          refine f_get (C := "DutyRulesModel") (T := T_MO) (N := 40) hx hb (fun w q => hT w (s_MO w q)) hown hK hI g_x rfl 31 (by decide) (hT _ w_840) (fun _ q => q) (mo_get (by decide) v_31) d_MO_returned_107 ?_
          refine lv_aload_n hx hb d_MO_returned_110 rfl (lv_at hl 4 rfl) ?_
          refine f_get (C := "DutyRulesModel") (T := T_MO) (N := 40) hx hb (fun w q => hT w (s_MO w q)) hown hK hI g_x rfl 30 (by decide) (hT _ w_839) (fun _ q => q) (mo_get (by decide) v_30) d_MO_returned_111 ?_
          refine lv_iload_n hx hb d_MO_returned_114 rfl (lv_at hl 6 rfl) ?_
          refine f_iastn (k := rn1) (f' := (fun i => nI (va_up rl1 rn1 n i))) hx hb hI g_a31 (by decide) (fT.ofK hK (t0 := 0) rfl) (by omega) (by omega) (up_i rl1 rn1 n) d_MO_returned_115 (fun H locs hI => ?_)
          generalize eh_13 : fU h_12 a31 (72, 0, .inl ((G.2.1 0), 30, .inl (fun i => nI (va_up rl1 rn1 n i)))) = h_13 at hI
          have hX := hX.set (e := .inl ((G.2.1 0), 30, .inl (fun i => nI (va_up rl1 rn1 n i)))) g_a31 (by decide); rw [eh_13] at hX
          have hF := hF.set (e := .inl ((G.2.1 0), 30, .inl (fun i => nI (va_up rl1 rn1 n i)))) g_a31 (by decide); rw [eh_13] at hF
          have g_x : h_13 x = some (40, 0, .inr (8, mo mf_9)) := (congrFun eh_13 x).symm.trans (fU_keep g_x (f_neR g_x g_a31 (by decide)))
          have g_a27 : h_13 a27 = some (68, 0, .inl ((G.2.1 0), 90030, .inl (fun i => nI (va_up (va_up th1 (mn * 30 + n) 0) ((mn * 30) + n) 1 i)))) := (congrFun eh_13 a27).symm.trans (fU_keep g_a27 (f_neR g_a27 g_a31 (by decide)))
          have g_a28 : h_13 a28 = some (69, 0, .inl ((G.2.1 1), 90030, .inr (.inl (fun i => lN (va_up du1 ((mn * 30) + n) ((rk (mK nf fl fk fd fw fv n (30 * mn + 29) la) (mE ne ef rr rm (30 * mn + 29))).2.2.2 / 100000000000) i))))) := (congrFun eh_13 a28).symm.trans (fU_keep g_a28 (f_neR g_a28 g_a31 (by decide)))
          have g_a29 : h_13 a29 = some (70, 0, .inl ((G.2.1 2), 3001, .inl (fun i => nI (wr i)))) := (congrFun eh_13 a29).symm.trans (fU_keep g_a29 (f_neR g_a29 g_a31 (by decide)))
          have g_a32 : h_13 a32 = some (73, 0, .inl ((G.2.1 1), 30, .inr (.inl rD1))) := (congrFun eh_13 a32).symm.trans (fU_keep g_a32 (f_neR g_a32 g_a31 (by decide)))
          have g_a33 : h_13 a33 = some (74, 0, .inl ((G.2.1 1), 30, .inr (.inl rM1))) := (congrFun eh_13 a33).symm.trans (fU_keep g_a33 (f_neR g_a33 g_a31 (by decide)))
          have hW9 : fF (inR [72]) h_12 h_13 := by rw [← eh_13]; exact fF.rf.set g_a31 (by decide)
          have g_a31 : h_13 a31 = some (72, 0, .inl ((G.2.1 0), 30, .inl (fun i => nI (va_up rl1 rn1 n i)))) := (congrFun eh_13 a31).symm.trans (fU_self _ _ _)
          have hFc := mFc.keep hFc (fun _ _ _ => rfl) hW9 (by decide)
          have hEd := mEd.keep hEd (fun _ _ _ => rfl) hW9 (by decide)
          have hS0 := mS0.keep hS0 (fun _ _ _ => rfl) hW9 (by decide)
          refine lv_aload_n hx hb d_MO_returned_116 rfl (lv_at hl 4 rfl) ?_
          refine f_get (C := "DutyRulesModel") (T := T_MO) (N := 40) hx hb (fun w q => hT w (s_MO w q)) hown hK hI g_x rfl 32 (by decide) (hT _ w_841) (fun _ q => q) (mo_get (by decide) v_32) d_MO_returned_117 ?_
          refine lv_aload_n hx hb d_MO_returned_120 rfl (lv_at hl 4 rfl) ?_
          refine f_get (C := "DutyRulesModel") (T := T_MO) (N := 40) hx hb (fun w q => hT w (s_MO w q)) hown hK hI g_x rfl 30 (by decide) (hT _ w_839) (fun _ q => q) (mo_get (by decide) v_30) d_MO_returned_121 ?_
          refine lv_iload hx hb d_MO_returned_124 (lv_at hl 0 rfl) ?_
          refine lv_if_eq (tgt := 138) hx hb d_MO_returned_126 (by decide) (fun c_14 => absurd c_14 (by decide)) (fun c_14 => ?_)
          refine lv_aload_n hx hb d_MO_returned_129 rfl (lv_at hl 4 rfl) ?_
          refine f_get (C := "DutyRulesModel") (T := T_MO) (N := 40) hx hb (fun w q => hT w (s_MO w q)) hown hK hI g_x rfl 28 (by decide) (hT _ w_837) (fun _ q => q) (mo_get (by decide) v_28) d_MO_returned_130 ?_
          refine lv_iload_n hx hb d_MO_returned_133 rfl (lv_at hl 3 rfl) ?_
          refine f_laldn (k := ((mn * 30) + n)) (v := (lN ((rk (mK nf fl fk fd fw fv n (30 * mn + 29) la) (mE ne ef rr rm (30 * mn + 29))).2.2.2 / 100000000000))) hx hb hI g_a28 (fT.ofK hK (t0 := 1) rfl) (by omega) (by omega) (by show lN (va_up _ _ _ _) = _; rw [va_up_self]) d_MO_returned_134 ?_
          refine lv_goto (tgt := 141) hx hb d_MO_returned_135 (by decide) ?_
          refine f_lastn (k := rn1) (f' := (vp_updL rD1 rn1 (lN ((rk (mK nf fl fk fd fw fv n (30 * mn + 29) la) (mE ne ef rr rm (30 * mn + 29))).2.2.2 / 100000000000)))) hx hb hI g_a32 (by decide) (fT.ofK hK (t0 := 1) rfl) (by omega) (by omega) rfl d_MO_returned_141 (fun H locs hI => ?_)
          generalize eh_15 : fU h_13 a32 (73, 0, .inl ((G.2.1 1), 30, .inr (.inl (vp_updL rD1 rn1 (lN ((rk (mK nf fl fk fd fw fv n (30 * mn + 29) la) (mE ne ef rr rm (30 * mn + 29))).2.2.2 / 100000000000)))))) = h_15 at hI
          have hX := hX.set (e := .inl ((G.2.1 1), 30, .inr (.inl (vp_updL rD1 rn1 (lN ((rk (mK nf fl fk fd fw fv n (30 * mn + 29) la) (mE ne ef rr rm (30 * mn + 29))).2.2.2 / 100000000000)))))) g_a32 (by decide); rw [eh_15] at hX
          have hF := hF.set (e := .inl ((G.2.1 1), 30, .inr (.inl (vp_updL rD1 rn1 (lN ((rk (mK nf fl fk fd fw fv n (30 * mn + 29) la) (mE ne ef rr rm (30 * mn + 29))).2.2.2 / 100000000000)))))) g_a32 (by decide); rw [eh_15] at hF
          have g_x : h_15 x = some (40, 0, .inr (8, mo mf_9)) := (congrFun eh_15 x).symm.trans (fU_keep g_x (f_neR g_x g_a32 (by decide)))
          have g_a27 : h_15 a27 = some (68, 0, .inl ((G.2.1 0), 90030, .inl (fun i => nI (va_up (va_up th1 (mn * 30 + n) 0) ((mn * 30) + n) 1 i)))) := (congrFun eh_15 a27).symm.trans (fU_keep g_a27 (f_neR g_a27 g_a32 (by decide)))
          have g_a28 : h_15 a28 = some (69, 0, .inl ((G.2.1 1), 90030, .inr (.inl (fun i => lN (va_up du1 ((mn * 30) + n) ((rk (mK nf fl fk fd fw fv n (30 * mn + 29) la) (mE ne ef rr rm (30 * mn + 29))).2.2.2 / 100000000000) i))))) := (congrFun eh_15 a28).symm.trans (fU_keep g_a28 (f_neR g_a28 g_a32 (by decide)))
          have g_a29 : h_15 a29 = some (70, 0, .inl ((G.2.1 2), 3001, .inl (fun i => nI (wr i)))) := (congrFun eh_15 a29).symm.trans (fU_keep g_a29 (f_neR g_a29 g_a32 (by decide)))
          have g_a31 : h_15 a31 = some (72, 0, .inl ((G.2.1 0), 30, .inl (fun i => nI (va_up rl1 rn1 n i)))) := (congrFun eh_15 a31).symm.trans (fU_keep g_a31 (f_neR g_a31 g_a32 (by decide)))
          have g_a33 : h_15 a33 = some (74, 0, .inl ((G.2.1 1), 30, .inr (.inl rM1))) := (congrFun eh_15 a33).symm.trans (fU_keep g_a33 (f_neR g_a33 g_a32 (by decide)))
          have hW9 : fF (inR [73]) h_13 h_15 := by rw [← eh_15]; exact fF.rf.set g_a32 (by decide)
          have g_a32 : h_15 a32 = some (73, 0, .inl ((G.2.1 1), 30, .inr (.inl (vp_updL rD1 rn1 (lN ((rk (mK nf fl fk fd fw fv n (30 * mn + 29) la) (mE ne ef rr rm (30 * mn + 29))).2.2.2 / 100000000000)))))) := (congrFun eh_15 a32).symm.trans (fU_self _ _ _)
          have hFc := mFc.keep hFc (fun _ _ _ => rfl) hW9 (by decide)
          have hEd := mEd.keep hEd (fun _ _ _ => rfl) hW9 (by decide)
          have hS0 := mS0.keep hS0 (fun _ _ _ => rfl) hW9 (by decide)
          refine lv_aload_n hx hb d_MO_returned_142 rfl (lv_at hl 4 rfl) ?_
          refine f_get (C := "DutyRulesModel") (T := T_MO) (N := 40) hx hb (fun w q => hT w (s_MO w q)) hown hK hI g_x rfl 33 (by decide) (hT _ w_842) (fun _ q => q) (mo_get (by decide) v_33) d_MO_returned_143 ?_
          refine lv_aload_n hx hb d_MO_returned_146 rfl (lv_at hl 4 rfl) ?_
          refine f_get (C := "DutyRulesModel") (T := T_MO) (N := 40) hx hb (fun w q => hT w (s_MO w q)) hown hK hI g_x rfl 30 (by decide) (hT _ w_839) (fun _ q => q) (mo_get (by decide) v_30) d_MO_returned_147 ?_
          refine lv_iload hx hb d_MO_returned_150 (lv_at hl 0 rfl) ?_
          refine lv_if_eq (tgt := 173) hx hb d_MO_returned_152 (by decide) (fun c_16 => absurd c_16 (by decide)) (fun c_16 => ?_)
          refine lv_iload hx hb d_MO_returned_155 (lv_at hl 2 rfl) ?_
          refine lv_iconst (v := 1) hx hb d_MO_returned_157 (by decide) ?_
          refine lv_icmp_ne (tgt := 173) hx hb d_MO_returned_158 (by decide) (fun c_17 => ?_) (fun c_17 => ?_)
          · have c_17 : ¬ (th1 ((mn * 30) + n)) = 1 := fun q => c_17 ((n_eq (a := (th1 ((mn * 30) + n))) (b := 1) (by have := bth1 ((mn * 30) + n); omega) (by omega)).mpr q)
            refine lv_lconst (v := 0) hx hb d_MO_returned_173 (by decide) ?_
            refine f_lastn (k := rn1) (f' := (vp_updL rM1 rn1 0)) hx hb hI g_a33 (by decide) (fT.ofK hK (t0 := 1) rfl) (by omega) (by omega) rfl d_MO_returned_174 (fun H locs hI => ?_)
            generalize eh_18 : fU h_15 a33 (74, 0, .inl ((G.2.1 1), 30, .inr (.inl (vp_updL rM1 rn1 0)))) = h_18 at hI
            have hX := hX.set (e := .inl ((G.2.1 1), 30, .inr (.inl (vp_updL rM1 rn1 0)))) g_a33 (by decide); rw [eh_18] at hX
            have hF := hF.set (e := .inl ((G.2.1 1), 30, .inr (.inl (vp_updL rM1 rn1 0)))) g_a33 (by decide); rw [eh_18] at hF
            have g_x : h_18 x = some (40, 0, .inr (8, mo mf_9)) := (congrFun eh_18 x).symm.trans (fU_keep g_x (f_neR g_x g_a33 (by decide)))
            have g_a27 : h_18 a27 = some (68, 0, .inl ((G.2.1 0), 90030, .inl (fun i => nI (va_up (va_up th1 (mn * 30 + n) 0) ((mn * 30) + n) 1 i)))) := (congrFun eh_18 a27).symm.trans (fU_keep g_a27 (f_neR g_a27 g_a33 (by decide)))
            have g_a28 : h_18 a28 = some (69, 0, .inl ((G.2.1 1), 90030, .inr (.inl (fun i => lN (va_up du1 ((mn * 30) + n) ((rk (mK nf fl fk fd fw fv n (30 * mn + 29) la) (mE ne ef rr rm (30 * mn + 29))).2.2.2 / 100000000000) i))))) := (congrFun eh_18 a28).symm.trans (fU_keep g_a28 (f_neR g_a28 g_a33 (by decide)))
            have g_a29 : h_18 a29 = some (70, 0, .inl ((G.2.1 2), 3001, .inl (fun i => nI (wr i)))) := (congrFun eh_18 a29).symm.trans (fU_keep g_a29 (f_neR g_a29 g_a33 (by decide)))
            have g_a31 : h_18 a31 = some (72, 0, .inl ((G.2.1 0), 30, .inl (fun i => nI (va_up rl1 rn1 n i)))) := (congrFun eh_18 a31).symm.trans (fU_keep g_a31 (f_neR g_a31 g_a33 (by decide)))
            have g_a32 : h_18 a32 = some (73, 0, .inl ((G.2.1 1), 30, .inr (.inl (vp_updL rD1 rn1 (lN ((rk (mK nf fl fk fd fw fv n (30 * mn + 29) la) (mE ne ef rr rm (30 * mn + 29))).2.2.2 / 100000000000)))))) := (congrFun eh_18 a32).symm.trans (fU_keep g_a32 (f_neR g_a32 g_a33 (by decide)))
            have hW9 : fF (inR [74]) h_15 h_18 := by rw [← eh_18]; exact fF.rf.set g_a33 (by decide)
            have g_a33 : h_18 a33 = some (74, 0, .inl ((G.2.1 1), 30, .inr (.inl (vp_updL rM1 rn1 0)))) := (congrFun eh_18 a33).symm.trans (fU_self _ _ _)
            have hFc := mFc.keep hFc (fun _ _ _ => rfl) hW9 (by decide)
            have hEd := mEd.keep hEd (fun _ _ _ => rfl) hW9 (by decide)
            have hS0 := mS0.keep hS0 (fun _ _ _ => rfl) hW9 (by decide)
            refine lv_aload_n hx hb d_MO_returned_175 rfl (lv_at hl 4 rfl) ?_
            refine lv_dup hx hb d_MO_returned_176 rfl ?_
            refine f_get (C := "DutyRulesModel") (T := T_MO) (N := 40) hx hb (fun w q => hT w (s_MO w q)) hown hK hI g_x rfl 30 (by decide) (hT _ w_839) (fun _ q => q) (mo_get (by decide) v_30) d_MO_returned_177 ?_
            refine lv_iconst (v := 1) hx hb d_MO_returned_180 (by decide) ?_
            refine lv_iadd hx hb d_MO_returned_181 ?_
            refine f_asi (nI_add rn1 1) ?_
            refine f_put (C := "DutyRulesModel") (T := T_MO) (N := 40) (fs' := mo (va_up mf_9 30 (.int (nI (rn1 + 1))))) (v := .int (nI (rn1 + 1))) hx hb (fun w q => hT w (s_MO w q)) t_MO k_MO n_MO hown hK hI g_x (by decide) rfl 30 (by decide) (hT _ w_839) (fun _ q => q) rfl rfl rfl (by rw [mo_len]; decide) (mo_set _) d_MO_returned_182 (fun H locs hI => ?_)
            generalize emf_19 : va_up mf_9 30 (.int (nI (rn1 + 1))) = mf_19 at hI
            have v_13 : mf_19 13 = .long (lN la) := (congrFun emf_19 13).symm.trans ((va_up_ne _ _ (by decide)).trans v_13)
            have v_14 : mf_19 14 = .int (rk (mK nf fl fk fd fw fv n (30 * mn + 29) la) (mE ne ef rr rm (30 * mn + 29))).1 := (congrFun emf_19 14).symm.trans ((va_up_ne _ _ (by decide)).trans v_14)
            have v_18 : mf_19 18 = .int (nI (rk (mK nf fl fk fd fw fv n (30 * mn + 29) la) (mE ne ef rr rm (30 * mn + 29))).2.1.length) := (congrFun emf_19 18).symm.trans ((va_up_ne _ _ (by decide)).trans v_18)
            have v_19 : mf_19 19 = .long (lN (rk (mK nf fl fk fd fw fv n (30 * mn + 29) la) (mE ne ef rr rm (30 * mn + 29))).2.2.1) := (congrFun emf_19 19).symm.trans ((va_up_ne _ _ (by decide)).trans v_19)
            have v_20 : mf_19 20 = .long (lN (rk (mK nf fl fk fd fw fv n (30 * mn + 29) la) (mE ne ef rr rm (30 * mn + 29))).2.2.2) := (congrFun emf_19 20).symm.trans ((va_up_ne _ _ (by decide)).trans v_20)
            have v_27 : mf_19 27 = .ref a27 := (congrFun emf_19 27).symm.trans ((va_up_ne _ _ (by decide)).trans v_27)
            have v_28 : mf_19 28 = .ref a28 := (congrFun emf_19 28).symm.trans ((va_up_ne _ _ (by decide)).trans v_28)
            have v_29 : mf_19 29 = .ref a29 := (congrFun emf_19 29).symm.trans ((va_up_ne _ _ (by decide)).trans v_29)
            have v_31 : mf_19 31 = .ref a31 := (congrFun emf_19 31).symm.trans ((va_up_ne _ _ (by decide)).trans v_31)
            have v_32 : mf_19 32 = .ref a32 := (congrFun emf_19 32).symm.trans ((va_up_ne _ _ (by decide)).trans v_32)
            have v_33 : mf_19 33 = .ref a33 := (congrFun emf_19 33).symm.trans ((va_up_ne _ _ (by decide)).trans v_33)
            have v_30 : mf_19 30 = .int (nI (rn1 + 1)) := (congrFun emf_19 30).symm.trans (va_up_self _ _ _)
            generalize eh_20 : fU h_18 x (40, 0, .inr (8, mo mf_19)) = h_20 at hI
            have hX := hX.set (e := .inr (8, mo mf_19)) g_x (by decide); rw [eh_20] at hX
            have hF := hF.set (e := .inr (8, mo mf_19)) g_x (by decide); rw [eh_20] at hF
            have g_a27 : h_20 a27 = some (68, 0, .inl ((G.2.1 0), 90030, .inl (fun i => nI (va_up (va_up th1 (mn * 30 + n) 0) ((mn * 30) + n) 1 i)))) := (congrFun eh_20 a27).symm.trans (fU_keep g_a27 (f_neR g_a27 g_x (by decide)))
            have g_a28 : h_20 a28 = some (69, 0, .inl ((G.2.1 1), 90030, .inr (.inl (fun i => lN (va_up du1 ((mn * 30) + n) ((rk (mK nf fl fk fd fw fv n (30 * mn + 29) la) (mE ne ef rr rm (30 * mn + 29))).2.2.2 / 100000000000) i))))) := (congrFun eh_20 a28).symm.trans (fU_keep g_a28 (f_neR g_a28 g_x (by decide)))
            have g_a29 : h_20 a29 = some (70, 0, .inl ((G.2.1 2), 3001, .inl (fun i => nI (wr i)))) := (congrFun eh_20 a29).symm.trans (fU_keep g_a29 (f_neR g_a29 g_x (by decide)))
            have g_a31 : h_20 a31 = some (72, 0, .inl ((G.2.1 0), 30, .inl (fun i => nI (va_up rl1 rn1 n i)))) := (congrFun eh_20 a31).symm.trans (fU_keep g_a31 (f_neR g_a31 g_x (by decide)))
            have g_a32 : h_20 a32 = some (73, 0, .inl ((G.2.1 1), 30, .inr (.inl (vp_updL rD1 rn1 (lN ((rk (mK nf fl fk fd fw fv n (30 * mn + 29) la) (mE ne ef rr rm (30 * mn + 29))).2.2.2 / 100000000000)))))) := (congrFun eh_20 a32).symm.trans (fU_keep g_a32 (f_neR g_a32 g_x (by decide)))
            have g_a33 : h_20 a33 = some (74, 0, .inl ((G.2.1 1), 30, .inr (.inl (vp_updL rM1 rn1 0)))) := (congrFun eh_20 a33).symm.trans (fU_keep g_a33 (f_neR g_a33 g_x (by decide)))
            have hW9 : fF (inR [40]) h_18 h_20 := by rw [← eh_20]; exact fF.rf.set g_x (by decide)
            have g_x : h_20 x = some (40, 0, .inr (8, mo mf_19)) := (congrFun eh_20 x).symm.trans (fU_self _ _ _)
            have hFc := mFc.keep (mf' := mf_19) hFc (fun j h1 h2 => (congrFun emf_19 j).symm.trans (va_up_ne _ _ (ne_out h1 h2 (by decide)))) hW9 (by decide)
            have hEd := mEd.keep (mf' := mf_19) hEd (fun j h1 h2 => (congrFun emf_19 j).symm.trans (va_up_ne _ _ (ne_out h1 h2 (by decide)))) hW9 (by decide)
            have hS0 := mS0.keep (mf' := mf_19) hS0 (fun j h1 h2 => (congrFun emf_19 j).symm.trans (va_up_ne _ _ (ne_out h1 h2 (by decide)))) hW9 (by decide)
            have hm1 : ∀ j, j < 14 ∨ (20 < j ∧ j < 30) ∨ 30 < j → mf_19 j = mf j := fun j hj => (congrFun emf_19 j).symm.trans ((va_up_ne _ _ (by omega)).trans (hm1 j hj))
            refine lv_iinc (v := nI (n + 1)) (lv' := [(2, .int (nI (n + 1))), (7, .int 1), (5, .long (lN (du1 ((mn * 30) + n)))), (4, .int (nI (th1 ((mn * 30) + n)))), (3, .int (nI ((mn * 30) + n))), (0, .ref x), (1, .int (nI mn))]) hx hb d_MO_returned_185 hl (k := 6) rfl (f_inc1 _) (by decide) rfl (fun ls hl => ?_)
            refine lv_goto (tgt := 16) hx hb d_MO_returned_188 (by decide) ?_
            have hRS2 := rtS_yes (b := true) (v := (rk (mK nf fl fk fd fw fv n (30 * mn + 29) la) (mE ne ef rr rm (30 * mn + 29))).2.2.2 / CT) hRS hL (decide_eq_true hk1) rfl
            unfold rtA at hRS2
            simp only [if_true, if_neg c_17] at hRS2
            refine ih (n + 1) (by omega) _ _ _ _ _ _ hRS2 (by omega) _ mf_19 _ _ g_x v_13 hFc hEd hS0 ⟨a27, a28, a29, a31, a32, a33, ⟨v_27, v_28, v_29, v_30, v_31, v_32, v_33⟩, ⟨g_a27, g_a28, g_a29, g_a31, g_a32, g_a33⟩, (by omega), (up_le (up_le bth1 (Nat.zero_le _)) (by decide)), (up_le bdu1 hcq), bwr, (up_lt brl1 hn2)⟩ hm1 hF hX hI ls ?_
            exact lv_sub hl [5, 6, 0] rfl
          · have c_17 : (th1 ((mn * 30) + n)) = 1 := (n_eq (a := (th1 ((mn * 30) + n))) (b := 1) (by have := bth1 ((mn * 30) + n); omega) (by omega)).mp c_17
            refine lv_aload_n hx hb d_MO_returned_161 rfl (lv_at hl 4 rfl) ?_
            refine f_get (C := "DutyRulesModel") (T := T_MO) (N := 40) hx hb (fun w q => hT w (s_MO w q)) hown hK hI g_x rfl 28 (by decide) (hT _ w_837) (fun _ q => q) (mo_get (by decide) v_28) d_MO_returned_162 ?_
            refine lv_iload_n hx hb d_MO_returned_165 rfl (lv_at hl 3 rfl) ?_
            refine f_laldn (k := ((mn * 30) + n)) (v := (lN ((rk (mK nf fl fk fd fw fv n (30 * mn + 29) la) (mE ne ef rr rm (30 * mn + 29))).2.2.2 / 100000000000))) hx hb hI g_a28 (fT.ofK hK (t0 := 1) rfl) (by omega) (by omega) (by show lN (va_up _ _ _ _) = _; rw [va_up_self]) d_MO_returned_166 ?_
            refine lv_lload hx hb d_MO_returned_167 (lv_at hl 1 rfl) ?_
            refine lv_lsub hx hb d_MO_returned_169 ?_
            refine lv_goto (tgt := 174) hx hb d_MO_returned_170 (by decide) ?_
            refine f_lastn (k := rn1) (f' := (vp_updL rM1 rn1 ((lN ((rk (mK nf fl fk fd fw fv n (30 * mn + 29) la) (mE ne ef rr rm (30 * mn + 29))).2.2.2 / 100000000000)) - (lN (du1 ((mn * 30) + n)))))) hx hb hI g_a33 (by decide) (fT.ofK hK (t0 := 1) rfl) (by omega) (by omega) rfl d_MO_returned_174 (fun H locs hI => ?_)
            generalize eh_21 : fU h_15 a33 (74, 0, .inl ((G.2.1 1), 30, .inr (.inl (vp_updL rM1 rn1 ((lN ((rk (mK nf fl fk fd fw fv n (30 * mn + 29) la) (mE ne ef rr rm (30 * mn + 29))).2.2.2 / 100000000000)) - (lN (du1 ((mn * 30) + n)))))))) = h_21 at hI
            have hX := hX.set (e := .inl ((G.2.1 1), 30, .inr (.inl (vp_updL rM1 rn1 ((lN ((rk (mK nf fl fk fd fw fv n (30 * mn + 29) la) (mE ne ef rr rm (30 * mn + 29))).2.2.2 / 100000000000)) - (lN (du1 ((mn * 30) + n)))))))) g_a33 (by decide); rw [eh_21] at hX
            have hF := hF.set (e := .inl ((G.2.1 1), 30, .inr (.inl (vp_updL rM1 rn1 ((lN ((rk (mK nf fl fk fd fw fv n (30 * mn + 29) la) (mE ne ef rr rm (30 * mn + 29))).2.2.2 / 100000000000)) - (lN (du1 ((mn * 30) + n)))))))) g_a33 (by decide); rw [eh_21] at hF
            have g_x : h_21 x = some (40, 0, .inr (8, mo mf_9)) := (congrFun eh_21 x).symm.trans (fU_keep g_x (f_neR g_x g_a33 (by decide)))
            have g_a27 : h_21 a27 = some (68, 0, .inl ((G.2.1 0), 90030, .inl (fun i => nI (va_up (va_up th1 (mn * 30 + n) 0) ((mn * 30) + n) 1 i)))) := (congrFun eh_21 a27).symm.trans (fU_keep g_a27 (f_neR g_a27 g_a33 (by decide)))
            have g_a28 : h_21 a28 = some (69, 0, .inl ((G.2.1 1), 90030, .inr (.inl (fun i => lN (va_up du1 ((mn * 30) + n) ((rk (mK nf fl fk fd fw fv n (30 * mn + 29) la) (mE ne ef rr rm (30 * mn + 29))).2.2.2 / 100000000000) i))))) := (congrFun eh_21 a28).symm.trans (fU_keep g_a28 (f_neR g_a28 g_a33 (by decide)))
            have g_a29 : h_21 a29 = some (70, 0, .inl ((G.2.1 2), 3001, .inl (fun i => nI (wr i)))) := (congrFun eh_21 a29).symm.trans (fU_keep g_a29 (f_neR g_a29 g_a33 (by decide)))
            have g_a31 : h_21 a31 = some (72, 0, .inl ((G.2.1 0), 30, .inl (fun i => nI (va_up rl1 rn1 n i)))) := (congrFun eh_21 a31).symm.trans (fU_keep g_a31 (f_neR g_a31 g_a33 (by decide)))
            have g_a32 : h_21 a32 = some (73, 0, .inl ((G.2.1 1), 30, .inr (.inl (vp_updL rD1 rn1 (lN ((rk (mK nf fl fk fd fw fv n (30 * mn + 29) la) (mE ne ef rr rm (30 * mn + 29))).2.2.2 / 100000000000)))))) := (congrFun eh_21 a32).symm.trans (fU_keep g_a32 (f_neR g_a32 g_a33 (by decide)))
            have hW9 : fF (inR [74]) h_15 h_21 := by rw [← eh_21]; exact fF.rf.set g_a33 (by decide)
            have g_a33 : h_21 a33 = some (74, 0, .inl ((G.2.1 1), 30, .inr (.inl (vp_updL rM1 rn1 ((lN ((rk (mK nf fl fk fd fw fv n (30 * mn + 29) la) (mE ne ef rr rm (30 * mn + 29))).2.2.2 / 100000000000)) - (lN (du1 ((mn * 30) + n)))))))) := (congrFun eh_21 a33).symm.trans (fU_self _ _ _)
            have hFc := mFc.keep hFc (fun _ _ _ => rfl) hW9 (by decide)
            have hEd := mEd.keep hEd (fun _ _ _ => rfl) hW9 (by decide)
            have hS0 := mS0.keep hS0 (fun _ _ _ => rfl) hW9 (by decide)
            refine lv_aload_n hx hb d_MO_returned_175 rfl (lv_at hl 4 rfl) ?_
            refine lv_dup hx hb d_MO_returned_176 rfl ?_
            refine f_get (C := "DutyRulesModel") (T := T_MO) (N := 40) hx hb (fun w q => hT w (s_MO w q)) hown hK hI g_x rfl 30 (by decide) (hT _ w_839) (fun _ q => q) (mo_get (by decide) v_30) d_MO_returned_177 ?_
            refine lv_iconst (v := 1) hx hb d_MO_returned_180 (by decide) ?_
            refine lv_iadd hx hb d_MO_returned_181 ?_
            refine f_asi (nI_add rn1 1) ?_
            refine f_put (C := "DutyRulesModel") (T := T_MO) (N := 40) (fs' := mo (va_up mf_9 30 (.int (nI (rn1 + 1))))) (v := .int (nI (rn1 + 1))) hx hb (fun w q => hT w (s_MO w q)) t_MO k_MO n_MO hown hK hI g_x (by decide) rfl 30 (by decide) (hT _ w_839) (fun _ q => q) rfl rfl rfl (by rw [mo_len]; decide) (mo_set _) d_MO_returned_182 (fun H locs hI => ?_)
            generalize emf_22 : va_up mf_9 30 (.int (nI (rn1 + 1))) = mf_22 at hI
            have v_13 : mf_22 13 = .long (lN la) := (congrFun emf_22 13).symm.trans ((va_up_ne _ _ (by decide)).trans v_13)
            have v_14 : mf_22 14 = .int (rk (mK nf fl fk fd fw fv n (30 * mn + 29) la) (mE ne ef rr rm (30 * mn + 29))).1 := (congrFun emf_22 14).symm.trans ((va_up_ne _ _ (by decide)).trans v_14)
            have v_18 : mf_22 18 = .int (nI (rk (mK nf fl fk fd fw fv n (30 * mn + 29) la) (mE ne ef rr rm (30 * mn + 29))).2.1.length) := (congrFun emf_22 18).symm.trans ((va_up_ne _ _ (by decide)).trans v_18)
            have v_19 : mf_22 19 = .long (lN (rk (mK nf fl fk fd fw fv n (30 * mn + 29) la) (mE ne ef rr rm (30 * mn + 29))).2.2.1) := (congrFun emf_22 19).symm.trans ((va_up_ne _ _ (by decide)).trans v_19)
            have v_20 : mf_22 20 = .long (lN (rk (mK nf fl fk fd fw fv n (30 * mn + 29) la) (mE ne ef rr rm (30 * mn + 29))).2.2.2) := (congrFun emf_22 20).symm.trans ((va_up_ne _ _ (by decide)).trans v_20)
            have v_27 : mf_22 27 = .ref a27 := (congrFun emf_22 27).symm.trans ((va_up_ne _ _ (by decide)).trans v_27)
            have v_28 : mf_22 28 = .ref a28 := (congrFun emf_22 28).symm.trans ((va_up_ne _ _ (by decide)).trans v_28)
            have v_29 : mf_22 29 = .ref a29 := (congrFun emf_22 29).symm.trans ((va_up_ne _ _ (by decide)).trans v_29)
            have v_31 : mf_22 31 = .ref a31 := (congrFun emf_22 31).symm.trans ((va_up_ne _ _ (by decide)).trans v_31)
            have v_32 : mf_22 32 = .ref a32 := (congrFun emf_22 32).symm.trans ((va_up_ne _ _ (by decide)).trans v_32)
            have v_33 : mf_22 33 = .ref a33 := (congrFun emf_22 33).symm.trans ((va_up_ne _ _ (by decide)).trans v_33)
            have v_30 : mf_22 30 = .int (nI (rn1 + 1)) := (congrFun emf_22 30).symm.trans (va_up_self _ _ _)
            generalize eh_23 : fU h_21 x (40, 0, .inr (8, mo mf_22)) = h_23 at hI
            have hX := hX.set (e := .inr (8, mo mf_22)) g_x (by decide); rw [eh_23] at hX
            have hF := hF.set (e := .inr (8, mo mf_22)) g_x (by decide); rw [eh_23] at hF
            have g_a27 : h_23 a27 = some (68, 0, .inl ((G.2.1 0), 90030, .inl (fun i => nI (va_up (va_up th1 (mn * 30 + n) 0) ((mn * 30) + n) 1 i)))) := (congrFun eh_23 a27).symm.trans (fU_keep g_a27 (f_neR g_a27 g_x (by decide)))
            have g_a28 : h_23 a28 = some (69, 0, .inl ((G.2.1 1), 90030, .inr (.inl (fun i => lN (va_up du1 ((mn * 30) + n) ((rk (mK nf fl fk fd fw fv n (30 * mn + 29) la) (mE ne ef rr rm (30 * mn + 29))).2.2.2 / 100000000000) i))))) := (congrFun eh_23 a28).symm.trans (fU_keep g_a28 (f_neR g_a28 g_x (by decide)))
            have g_a29 : h_23 a29 = some (70, 0, .inl ((G.2.1 2), 3001, .inl (fun i => nI (wr i)))) := (congrFun eh_23 a29).symm.trans (fU_keep g_a29 (f_neR g_a29 g_x (by decide)))
            have g_a31 : h_23 a31 = some (72, 0, .inl ((G.2.1 0), 30, .inl (fun i => nI (va_up rl1 rn1 n i)))) := (congrFun eh_23 a31).symm.trans (fU_keep g_a31 (f_neR g_a31 g_x (by decide)))
            have g_a32 : h_23 a32 = some (73, 0, .inl ((G.2.1 1), 30, .inr (.inl (vp_updL rD1 rn1 (lN ((rk (mK nf fl fk fd fw fv n (30 * mn + 29) la) (mE ne ef rr rm (30 * mn + 29))).2.2.2 / 100000000000)))))) := (congrFun eh_23 a32).symm.trans (fU_keep g_a32 (f_neR g_a32 g_x (by decide)))
            have g_a33 : h_23 a33 = some (74, 0, .inl ((G.2.1 1), 30, .inr (.inl (vp_updL rM1 rn1 ((lN ((rk (mK nf fl fk fd fw fv n (30 * mn + 29) la) (mE ne ef rr rm (30 * mn + 29))).2.2.2 / 100000000000)) - (lN (du1 ((mn * 30) + n)))))))) := (congrFun eh_23 a33).symm.trans (fU_keep g_a33 (f_neR g_a33 g_x (by decide)))
            have hW9 : fF (inR [40]) h_21 h_23 := by rw [← eh_23]; exact fF.rf.set g_x (by decide)
            have g_x : h_23 x = some (40, 0, .inr (8, mo mf_22)) := (congrFun eh_23 x).symm.trans (fU_self _ _ _)
            have hFc := mFc.keep (mf' := mf_22) hFc (fun j h1 h2 => (congrFun emf_22 j).symm.trans (va_up_ne _ _ (ne_out h1 h2 (by decide)))) hW9 (by decide)
            have hEd := mEd.keep (mf' := mf_22) hEd (fun j h1 h2 => (congrFun emf_22 j).symm.trans (va_up_ne _ _ (ne_out h1 h2 (by decide)))) hW9 (by decide)
            have hS0 := mS0.keep (mf' := mf_22) hS0 (fun j h1 h2 => (congrFun emf_22 j).symm.trans (va_up_ne _ _ (ne_out h1 h2 (by decide)))) hW9 (by decide)
            have hm1 : ∀ j, j < 14 ∨ (20 < j ∧ j < 30) ∨ 30 < j → mf_22 j = mf j := fun j hj => (congrFun emf_22 j).symm.trans ((va_up_ne _ _ (by omega)).trans (hm1 j hj))
            refine lv_iinc (v := nI (n + 1)) (lv' := [(2, .int (nI (n + 1))), (7, .int 1), (5, .long (lN (du1 ((mn * 30) + n)))), (4, .int (nI (th1 ((mn * 30) + n)))), (3, .int (nI ((mn * 30) + n))), (0, .ref x), (1, .int (nI mn))]) hx hb d_MO_returned_185 hl (k := 6) rfl (f_inc1 _) (by decide) rfl (fun ls hl => ?_)
            refine lv_goto (tgt := 16) hx hb d_MO_returned_188 (by decide) ?_
            have hRS2 := rtS_yes (b := true) (v := (rk (mK nf fl fk fd fw fv n (30 * mn + 29) la) (mE ne ef rr rm (30 * mn + 29))).2.2.2 / CT) hRS hL (decide_eq_true hk1) rfl
            unfold rtA at hRS2
            simp only [if_true, if_pos c_17] at hRS2
            refine ih (n + 1) (by omega) _ _ _ _ _ _ hRS2 (by omega) _ mf_22 _ _ g_x v_13 hFc hEd hS0 ⟨a27, a28, a29, a31, a32, a33, ⟨v_27, v_28, v_29, v_30, v_31, v_32, v_33⟩, ⟨g_a27, g_a28, g_a29, g_a31, g_a32, g_a33⟩, (by omega), (up_le (up_le bth1 (Nat.zero_le _)) (by decide)), (up_le bdu1 hcq), bwr, (up_lt brl1 hn2)⟩ hm1 hF hX hI ls ?_
            exact lv_sub hl [5, 6, 0] rfl
        · refine f_asi (if_neg hk1) ?_
          have hd0 := rk_open hk1
          have hS0 := hSd.s0
          have v_13 : mf_9 13 = .long (lN la) := (hm9 13 (Or.inl (by decide))).trans v_13
          obtain ⟨a27, a28, a29, a31, a32, a33, ⟨v_27, v_28, v_29, v_30, v_31, v_32, v_33⟩, ⟨g_a27, g_a28, g_a29, g_a31, g_a32, g_a33⟩, brn2, bth2, bdu2, bwr1, brl2⟩ := id hRt
          obtain ⟨sl, sr, sc, hSt, hq⟩ := hSd
          obtain ⟨a15, a16, a17, ⟨v_14, v_15, v_16, v_17, v_18, v_19, v_20⟩, ⟨g_a15, g_a16, g_a17⟩⟩ := id hSt
          have hcq := q_ct hbd.1
          refine lv_istore (lv' := [(7, .int 0), (5, .long (lN (du1 ((mn * 30) + n)))), (4, .int (nI (th1 ((mn * 30) + n)))), (3, .int (nI ((mn * 30) + n))), (0, .ref x), (1, .int (nI mn)), (2, .int (nI n))]) hx hb d_MO_returned_74 hl (by decide) rfl (fun ls hl => ?_)
          refine lv_aload_n hx hb d_MO_returned_76 rfl (lv_at hl 4 rfl) ?_
          refine f_get (C := "DutyRulesModel") (T := T_MO) (N := 40) hx hb (fun w q => hT w (s_MO w q)) hown hK hI g_x rfl 27 (by decide) (hT _ w_836) (fun _ q => q) (mo_get (by decide) v_27) d_MO_returned_77 ?_
          refine lv_iload_n hx hb d_MO_returned_80 rfl (lv_at hl 3 rfl) ?_
          refine lv_iload hx hb d_MO_returned_81 (lv_at hl 0 rfl) ?_
          refine lv_if_eq (tgt := 90) hx hb d_MO_returned_83 (by decide) (fun c_24 => ?_) (fun c_24 => absurd rfl c_24)
          refine lv_iconst (v := 2) hx hb d_MO_returned_90 (by decide) ?_
          refine f_iastn (k := ((mn * 30) + n)) (f' := (fun i => nI (va_up (va_up th1 (mn * 30 + n) 0) ((mn * 30) + n) 2 i))) hx hb hI g_a27 (by decide) (fT.ofK hK (t0 := 0) rfl) (by omega) (by omega) (up_i (va_up th1 (mn * 30 + n) 0) ((mn * 30) + n) 2) d_MO_returned_91 (fun H locs hI => ?_)
          generalize eh_25 : fU h9 a27 (68, 0, .inl ((G.2.1 0), 90030, .inl (fun i => nI (va_up (va_up th1 (mn * 30 + n) 0) ((mn * 30) + n) 2 i)))) = h_25 at hI
          have hX := hX.set (e := .inl ((G.2.1 0), 90030, .inl (fun i => nI (va_up (va_up th1 (mn * 30 + n) 0) ((mn * 30) + n) 2 i)))) g_a27 (by decide); rw [eh_25] at hX
          have hF := hF.set (e := .inl ((G.2.1 0), 90030, .inl (fun i => nI (va_up (va_up th1 (mn * 30 + n) 0) ((mn * 30) + n) 2 i)))) g_a27 (by decide); rw [eh_25] at hF
          have g_x : h_25 x = some (40, 0, .inr (8, mo mf_9)) := (congrFun eh_25 x).symm.trans (fU_keep g_x (f_neR g_x g_a27 (by decide)))
          have g_a28 : h_25 a28 = some (69, 0, .inl ((G.2.1 1), 90030, .inr (.inl (fun i => lN (du1 i))))) := (congrFun eh_25 a28).symm.trans (fU_keep g_a28 (f_neR g_a28 g_a27 (by decide)))
          have g_a29 : h_25 a29 = some (70, 0, .inl ((G.2.1 2), 3001, .inl (fun i => nI (wr i)))) := (congrFun eh_25 a29).symm.trans (fU_keep g_a29 (f_neR g_a29 g_a27 (by decide)))
          have g_a31 : h_25 a31 = some (72, 0, .inl ((G.2.1 0), 30, .inl (fun i => nI (rl1 i)))) := (congrFun eh_25 a31).symm.trans (fU_keep g_a31 (f_neR g_a31 g_a27 (by decide)))
          have g_a32 : h_25 a32 = some (73, 0, .inl ((G.2.1 1), 30, .inr (.inl rD1))) := (congrFun eh_25 a32).symm.trans (fU_keep g_a32 (f_neR g_a32 g_a27 (by decide)))
          have g_a33 : h_25 a33 = some (74, 0, .inl ((G.2.1 1), 30, .inr (.inl rM1))) := (congrFun eh_25 a33).symm.trans (fU_keep g_a33 (f_neR g_a33 g_a27 (by decide)))
          have hW9 : fF (inR [68]) h9 h_25 := by rw [← eh_25]; exact fF.rf.set g_a27 (by decide)
          have g_a27 : h_25 a27 = some (68, 0, .inl ((G.2.1 0), 90030, .inl (fun i => nI (va_up (va_up th1 (mn * 30 + n) 0) ((mn * 30) + n) 2 i)))) := (congrFun eh_25 a27).symm.trans (fU_self _ _ _)
          have hFc := mFc.keep hFc (fun _ _ _ => rfl) hW9 (by decide)
          have hEd := mEd.keep hEd (fun _ _ _ => rfl) hW9 (by decide)
          have hS0 := mS0.keep hS0 (fun _ _ _ => rfl) hW9 (by decide)
          refine lv_aload_n hx hb d_MO_returned_92 rfl (lv_at hl 4 rfl) ?_
          refine f_get (C := "DutyRulesModel") (T := T_MO) (N := 40) hx hb (fun w q => hT w (s_MO w q)) hown hK hI g_x rfl 28 (by decide) (hT _ w_837) (fun _ q => q) (mo_get (by decide) v_28) d_MO_returned_93 ?_
          refine lv_iload_n hx hb d_MO_returned_96 rfl (lv_at hl 3 rfl) ?_
          refine lv_aload_n hx hb d_MO_returned_97 rfl (lv_at hl 4 rfl) ?_
          refine f_get (C := "DutyRulesModel") (T := T_MO) (N := 40) hx hb (fun w q => hT w (s_MO w q)) hown hK hI g_x rfl 20 (by decide) (hT _ w_829) (fun _ q => q) (mo_get (by decide) v_20) d_MO_returned_98 ?_
          refine lv_ldc2 (v := 100000000000) hx hb hown (hT _ w_1042) d_MO_returned_101 ?_
          refine lv_ldiv hx hb d_MO_returned_104 (l_ne0 (a := 100000000000) (by omega) (by omega)) ?_
          refine f_asl (pk_lDiv (a := (rk (mK nf fl fk fd fw fv n (30 * mn + 29) la) (mE ne ef rr rm (30 * mn + 29))).2.2.2) (b := 100000000000) (by omega) (by omega) (by omega)) ?_
          refine f_lastn (k := ((mn * 30) + n)) (f' := (fun i => lN (va_up du1 ((mn * 30) + n) ((rk (mK nf fl fk fd fw fv n (30 * mn + 29) la) (mE ne ef rr rm (30 * mn + 29))).2.2.2 / 100000000000) i))) hx hb hI g_a28 (by decide) (fT.ofK hK (t0 := 1) rfl) (by omega) (by omega) (up_l du1 ((mn * 30) + n) ((rk (mK nf fl fk fd fw fv n (30 * mn + 29) la) (mE ne ef rr rm (30 * mn + 29))).2.2.2 / 100000000000)) d_MO_returned_105 (fun H locs hI => ?_)
          generalize eh_26 : fU h_25 a28 (69, 0, .inl ((G.2.1 1), 90030, .inr (.inl (fun i => lN (va_up du1 ((mn * 30) + n) ((rk (mK nf fl fk fd fw fv n (30 * mn + 29) la) (mE ne ef rr rm (30 * mn + 29))).2.2.2 / 100000000000) i))))) = h_26 at hI
          have hX := hX.set (e := .inl ((G.2.1 1), 90030, .inr (.inl (fun i => lN (va_up du1 ((mn * 30) + n) ((rk (mK nf fl fk fd fw fv n (30 * mn + 29) la) (mE ne ef rr rm (30 * mn + 29))).2.2.2 / 100000000000) i))))) g_a28 (by decide); rw [eh_26] at hX
          have hF := hF.set (e := .inl ((G.2.1 1), 90030, .inr (.inl (fun i => lN (va_up du1 ((mn * 30) + n) ((rk (mK nf fl fk fd fw fv n (30 * mn + 29) la) (mE ne ef rr rm (30 * mn + 29))).2.2.2 / 100000000000) i))))) g_a28 (by decide); rw [eh_26] at hF
          have g_x : h_26 x = some (40, 0, .inr (8, mo mf_9)) := (congrFun eh_26 x).symm.trans (fU_keep g_x (f_neR g_x g_a28 (by decide)))
          have g_a27 : h_26 a27 = some (68, 0, .inl ((G.2.1 0), 90030, .inl (fun i => nI (va_up (va_up th1 (mn * 30 + n) 0) ((mn * 30) + n) 2 i)))) := (congrFun eh_26 a27).symm.trans (fU_keep g_a27 (f_neR g_a27 g_a28 (by decide)))
          have g_a29 : h_26 a29 = some (70, 0, .inl ((G.2.1 2), 3001, .inl (fun i => nI (wr i)))) := (congrFun eh_26 a29).symm.trans (fU_keep g_a29 (f_neR g_a29 g_a28 (by decide)))
          have g_a31 : h_26 a31 = some (72, 0, .inl ((G.2.1 0), 30, .inl (fun i => nI (rl1 i)))) := (congrFun eh_26 a31).symm.trans (fU_keep g_a31 (f_neR g_a31 g_a28 (by decide)))
          have g_a32 : h_26 a32 = some (73, 0, .inl ((G.2.1 1), 30, .inr (.inl rD1))) := (congrFun eh_26 a32).symm.trans (fU_keep g_a32 (f_neR g_a32 g_a28 (by decide)))
          have g_a33 : h_26 a33 = some (74, 0, .inl ((G.2.1 1), 30, .inr (.inl rM1))) := (congrFun eh_26 a33).symm.trans (fU_keep g_a33 (f_neR g_a33 g_a28 (by decide)))
          have hW9 : fF (inR [69]) h_25 h_26 := by rw [← eh_26]; exact fF.rf.set g_a28 (by decide)
          have g_a28 : h_26 a28 = some (69, 0, .inl ((G.2.1 1), 90030, .inr (.inl (fun i => lN (va_up du1 ((mn * 30) + n) ((rk (mK nf fl fk fd fw fv n (30 * mn + 29) la) (mE ne ef rr rm (30 * mn + 29))).2.2.2 / 100000000000) i))))) := (congrFun eh_26 a28).symm.trans (fU_self _ _ _)
          have hFc := mFc.keep hFc (fun _ _ _ => rfl) hW9 (by decide)
          have hEd := mEd.keep hEd (fun _ _ _ => rfl) hW9 (by decide)
          have hS0 := mS0.keep hS0 (fun _ _ _ => rfl) hW9 (by decide)
          refine lv_aload_n hx hb d_MO_returned_106 rfl (lv_at hl 4 rfl) ?_
          refine f_get (C := "DutyRulesModel") (T := T_MO) (N := 40) hx hb (fun w q => hT w (s_MO w q)) hown hK hI g_x rfl 31 (by decide) (hT _ w_840) (fun _ q => q) (mo_get (by decide) v_31) d_MO_returned_107 ?_
          refine lv_aload_n hx hb d_MO_returned_110 rfl (lv_at hl 4 rfl) ?_
          refine f_get (C := "DutyRulesModel") (T := T_MO) (N := 40) hx hb (fun w q => hT w (s_MO w q)) hown hK hI g_x rfl 30 (by decide) (hT _ w_839) (fun _ q => q) (mo_get (by decide) v_30) d_MO_returned_111 ?_
          refine lv_iload_n hx hb d_MO_returned_114 rfl (lv_at hl 6 rfl) ?_
          refine f_iastn (k := rn1) (f' := (fun i => nI (va_up rl1 rn1 n i))) hx hb hI g_a31 (by decide) (fT.ofK hK (t0 := 0) rfl) (by omega) (by omega) (up_i rl1 rn1 n) d_MO_returned_115 (fun H locs hI => ?_)
          generalize eh_27 : fU h_26 a31 (72, 0, .inl ((G.2.1 0), 30, .inl (fun i => nI (va_up rl1 rn1 n i)))) = h_27 at hI
          have hX := hX.set (e := .inl ((G.2.1 0), 30, .inl (fun i => nI (va_up rl1 rn1 n i)))) g_a31 (by decide); rw [eh_27] at hX
          have hF := hF.set (e := .inl ((G.2.1 0), 30, .inl (fun i => nI (va_up rl1 rn1 n i)))) g_a31 (by decide); rw [eh_27] at hF
          have g_x : h_27 x = some (40, 0, .inr (8, mo mf_9)) := (congrFun eh_27 x).symm.trans (fU_keep g_x (f_neR g_x g_a31 (by decide)))
          have g_a27 : h_27 a27 = some (68, 0, .inl ((G.2.1 0), 90030, .inl (fun i => nI (va_up (va_up th1 (mn * 30 + n) 0) ((mn * 30) + n) 2 i)))) := (congrFun eh_27 a27).symm.trans (fU_keep g_a27 (f_neR g_a27 g_a31 (by decide)))
          have g_a28 : h_27 a28 = some (69, 0, .inl ((G.2.1 1), 90030, .inr (.inl (fun i => lN (va_up du1 ((mn * 30) + n) ((rk (mK nf fl fk fd fw fv n (30 * mn + 29) la) (mE ne ef rr rm (30 * mn + 29))).2.2.2 / 100000000000) i))))) := (congrFun eh_27 a28).symm.trans (fU_keep g_a28 (f_neR g_a28 g_a31 (by decide)))
          have g_a29 : h_27 a29 = some (70, 0, .inl ((G.2.1 2), 3001, .inl (fun i => nI (wr i)))) := (congrFun eh_27 a29).symm.trans (fU_keep g_a29 (f_neR g_a29 g_a31 (by decide)))
          have g_a32 : h_27 a32 = some (73, 0, .inl ((G.2.1 1), 30, .inr (.inl rD1))) := (congrFun eh_27 a32).symm.trans (fU_keep g_a32 (f_neR g_a32 g_a31 (by decide)))
          have g_a33 : h_27 a33 = some (74, 0, .inl ((G.2.1 1), 30, .inr (.inl rM1))) := (congrFun eh_27 a33).symm.trans (fU_keep g_a33 (f_neR g_a33 g_a31 (by decide)))
          have hW9 : fF (inR [72]) h_26 h_27 := by rw [← eh_27]; exact fF.rf.set g_a31 (by decide)
          have g_a31 : h_27 a31 = some (72, 0, .inl ((G.2.1 0), 30, .inl (fun i => nI (va_up rl1 rn1 n i)))) := (congrFun eh_27 a31).symm.trans (fU_self _ _ _)
          have hFc := mFc.keep hFc (fun _ _ _ => rfl) hW9 (by decide)
          have hEd := mEd.keep hEd (fun _ _ _ => rfl) hW9 (by decide)
          have hS0 := mS0.keep hS0 (fun _ _ _ => rfl) hW9 (by decide)
          refine lv_aload_n hx hb d_MO_returned_116 rfl (lv_at hl 4 rfl) ?_
          refine f_get (C := "DutyRulesModel") (T := T_MO) (N := 40) hx hb (fun w q => hT w (s_MO w q)) hown hK hI g_x rfl 32 (by decide) (hT _ w_841) (fun _ q => q) (mo_get (by decide) v_32) d_MO_returned_117 ?_
          refine lv_aload_n hx hb d_MO_returned_120 rfl (lv_at hl 4 rfl) ?_
          refine f_get (C := "DutyRulesModel") (T := T_MO) (N := 40) hx hb (fun w q => hT w (s_MO w q)) hown hK hI g_x rfl 30 (by decide) (hT _ w_839) (fun _ q => q) (mo_get (by decide) v_30) d_MO_returned_121 ?_
          refine lv_iload hx hb d_MO_returned_124 (lv_at hl 0 rfl) ?_
          refine lv_if_eq (tgt := 138) hx hb d_MO_returned_126 (by decide) (fun c_28 => ?_) (fun c_28 => absurd rfl c_28)
          refine lv_ldc2 (v := (-9223372036854775808)) hx hb hown (hT _ w_1017) d_MO_returned_138 ?_
          refine f_lastn (k := rn1) (f' := (vp_updL rD1 rn1 (-9223372036854775808))) hx hb hI g_a32 (by decide) (fT.ofK hK (t0 := 1) rfl) (by omega) (by omega) rfl d_MO_returned_141 (fun H locs hI => ?_)
          generalize eh_29 : fU h_27 a32 (73, 0, .inl ((G.2.1 1), 30, .inr (.inl (vp_updL rD1 rn1 (-9223372036854775808))))) = h_29 at hI
          have hX := hX.set (e := .inl ((G.2.1 1), 30, .inr (.inl (vp_updL rD1 rn1 (-9223372036854775808))))) g_a32 (by decide); rw [eh_29] at hX
          have hF := hF.set (e := .inl ((G.2.1 1), 30, .inr (.inl (vp_updL rD1 rn1 (-9223372036854775808))))) g_a32 (by decide); rw [eh_29] at hF
          have g_x : h_29 x = some (40, 0, .inr (8, mo mf_9)) := (congrFun eh_29 x).symm.trans (fU_keep g_x (f_neR g_x g_a32 (by decide)))
          have g_a27 : h_29 a27 = some (68, 0, .inl ((G.2.1 0), 90030, .inl (fun i => nI (va_up (va_up th1 (mn * 30 + n) 0) ((mn * 30) + n) 2 i)))) := (congrFun eh_29 a27).symm.trans (fU_keep g_a27 (f_neR g_a27 g_a32 (by decide)))
          have g_a28 : h_29 a28 = some (69, 0, .inl ((G.2.1 1), 90030, .inr (.inl (fun i => lN (va_up du1 ((mn * 30) + n) ((rk (mK nf fl fk fd fw fv n (30 * mn + 29) la) (mE ne ef rr rm (30 * mn + 29))).2.2.2 / 100000000000) i))))) := (congrFun eh_29 a28).symm.trans (fU_keep g_a28 (f_neR g_a28 g_a32 (by decide)))
          have g_a29 : h_29 a29 = some (70, 0, .inl ((G.2.1 2), 3001, .inl (fun i => nI (wr i)))) := (congrFun eh_29 a29).symm.trans (fU_keep g_a29 (f_neR g_a29 g_a32 (by decide)))
          have g_a31 : h_29 a31 = some (72, 0, .inl ((G.2.1 0), 30, .inl (fun i => nI (va_up rl1 rn1 n i)))) := (congrFun eh_29 a31).symm.trans (fU_keep g_a31 (f_neR g_a31 g_a32 (by decide)))
          have g_a33 : h_29 a33 = some (74, 0, .inl ((G.2.1 1), 30, .inr (.inl rM1))) := (congrFun eh_29 a33).symm.trans (fU_keep g_a33 (f_neR g_a33 g_a32 (by decide)))
          have hW9 : fF (inR [73]) h_27 h_29 := by rw [← eh_29]; exact fF.rf.set g_a32 (by decide)
          have g_a32 : h_29 a32 = some (73, 0, .inl ((G.2.1 1), 30, .inr (.inl (vp_updL rD1 rn1 (-9223372036854775808))))) := (congrFun eh_29 a32).symm.trans (fU_self _ _ _)
          have hFc := mFc.keep hFc (fun _ _ _ => rfl) hW9 (by decide)
          have hEd := mEd.keep hEd (fun _ _ _ => rfl) hW9 (by decide)
          have hS0 := mS0.keep hS0 (fun _ _ _ => rfl) hW9 (by decide)
          refine lv_aload_n hx hb d_MO_returned_142 rfl (lv_at hl 4 rfl) ?_
          refine f_get (C := "DutyRulesModel") (T := T_MO) (N := 40) hx hb (fun w q => hT w (s_MO w q)) hown hK hI g_x rfl 33 (by decide) (hT _ w_842) (fun _ q => q) (mo_get (by decide) v_33) d_MO_returned_143 ?_
          refine lv_aload_n hx hb d_MO_returned_146 rfl (lv_at hl 4 rfl) ?_
          refine f_get (C := "DutyRulesModel") (T := T_MO) (N := 40) hx hb (fun w q => hT w (s_MO w q)) hown hK hI g_x rfl 30 (by decide) (hT _ w_839) (fun _ q => q) (mo_get (by decide) v_30) d_MO_returned_147 ?_
          refine lv_iload hx hb d_MO_returned_150 (lv_at hl 0 rfl) ?_
          refine lv_if_eq (tgt := 173) hx hb d_MO_returned_152 (by decide) (fun c_30 => ?_) (fun c_30 => absurd rfl c_30)
          refine lv_lconst (v := 0) hx hb d_MO_returned_173 (by decide) ?_
          refine f_lastn (k := rn1) (f' := (vp_updL rM1 rn1 0)) hx hb hI g_a33 (by decide) (fT.ofK hK (t0 := 1) rfl) (by omega) (by omega) rfl d_MO_returned_174 (fun H locs hI => ?_)
          generalize eh_31 : fU h_29 a33 (74, 0, .inl ((G.2.1 1), 30, .inr (.inl (vp_updL rM1 rn1 0)))) = h_31 at hI
          have hX := hX.set (e := .inl ((G.2.1 1), 30, .inr (.inl (vp_updL rM1 rn1 0)))) g_a33 (by decide); rw [eh_31] at hX
          have hF := hF.set (e := .inl ((G.2.1 1), 30, .inr (.inl (vp_updL rM1 rn1 0)))) g_a33 (by decide); rw [eh_31] at hF
          have g_x : h_31 x = some (40, 0, .inr (8, mo mf_9)) := (congrFun eh_31 x).symm.trans (fU_keep g_x (f_neR g_x g_a33 (by decide)))
          have g_a27 : h_31 a27 = some (68, 0, .inl ((G.2.1 0), 90030, .inl (fun i => nI (va_up (va_up th1 (mn * 30 + n) 0) ((mn * 30) + n) 2 i)))) := (congrFun eh_31 a27).symm.trans (fU_keep g_a27 (f_neR g_a27 g_a33 (by decide)))
          have g_a28 : h_31 a28 = some (69, 0, .inl ((G.2.1 1), 90030, .inr (.inl (fun i => lN (va_up du1 ((mn * 30) + n) ((rk (mK nf fl fk fd fw fv n (30 * mn + 29) la) (mE ne ef rr rm (30 * mn + 29))).2.2.2 / 100000000000) i))))) := (congrFun eh_31 a28).symm.trans (fU_keep g_a28 (f_neR g_a28 g_a33 (by decide)))
          have g_a29 : h_31 a29 = some (70, 0, .inl ((G.2.1 2), 3001, .inl (fun i => nI (wr i)))) := (congrFun eh_31 a29).symm.trans (fU_keep g_a29 (f_neR g_a29 g_a33 (by decide)))
          have g_a31 : h_31 a31 = some (72, 0, .inl ((G.2.1 0), 30, .inl (fun i => nI (va_up rl1 rn1 n i)))) := (congrFun eh_31 a31).symm.trans (fU_keep g_a31 (f_neR g_a31 g_a33 (by decide)))
          have g_a32 : h_31 a32 = some (73, 0, .inl ((G.2.1 1), 30, .inr (.inl (vp_updL rD1 rn1 (-9223372036854775808))))) := (congrFun eh_31 a32).symm.trans (fU_keep g_a32 (f_neR g_a32 g_a33 (by decide)))
          have hW9 : fF (inR [74]) h_29 h_31 := by rw [← eh_31]; exact fF.rf.set g_a33 (by decide)
          have g_a33 : h_31 a33 = some (74, 0, .inl ((G.2.1 1), 30, .inr (.inl (vp_updL rM1 rn1 0)))) := (congrFun eh_31 a33).symm.trans (fU_self _ _ _)
          have hFc := mFc.keep hFc (fun _ _ _ => rfl) hW9 (by decide)
          have hEd := mEd.keep hEd (fun _ _ _ => rfl) hW9 (by decide)
          have hS0 := mS0.keep hS0 (fun _ _ _ => rfl) hW9 (by decide)
          refine lv_aload_n hx hb d_MO_returned_175 rfl (lv_at hl 4 rfl) ?_
          refine lv_dup hx hb d_MO_returned_176 rfl ?_
          refine f_get (C := "DutyRulesModel") (T := T_MO) (N := 40) hx hb (fun w q => hT w (s_MO w q)) hown hK hI g_x rfl 30 (by decide) (hT _ w_839) (fun _ q => q) (mo_get (by decide) v_30) d_MO_returned_177 ?_
          refine lv_iconst (v := 1) hx hb d_MO_returned_180 (by decide) ?_
          refine lv_iadd hx hb d_MO_returned_181 ?_
          refine f_asi (nI_add rn1 1) ?_
          refine f_put (C := "DutyRulesModel") (T := T_MO) (N := 40) (fs' := mo (va_up mf_9 30 (.int (nI (rn1 + 1))))) (v := .int (nI (rn1 + 1))) hx hb (fun w q => hT w (s_MO w q)) t_MO k_MO n_MO hown hK hI g_x (by decide) rfl 30 (by decide) (hT _ w_839) (fun _ q => q) rfl rfl rfl (by rw [mo_len]; decide) (mo_set _) d_MO_returned_182 (fun H locs hI => ?_)
          generalize emf_32 : va_up mf_9 30 (.int (nI (rn1 + 1))) = mf_32 at hI
          have v_13 : mf_32 13 = .long (lN la) := (congrFun emf_32 13).symm.trans ((va_up_ne _ _ (by decide)).trans v_13)
          have v_14 : mf_32 14 = .int (rk (mK nf fl fk fd fw fv n (30 * mn + 29) la) (mE ne ef rr rm (30 * mn + 29))).1 := (congrFun emf_32 14).symm.trans ((va_up_ne _ _ (by decide)).trans v_14)
          have v_18 : mf_32 18 = .int (nI (rk (mK nf fl fk fd fw fv n (30 * mn + 29) la) (mE ne ef rr rm (30 * mn + 29))).2.1.length) := (congrFun emf_32 18).symm.trans ((va_up_ne _ _ (by decide)).trans v_18)
          have v_19 : mf_32 19 = .long (lN (rk (mK nf fl fk fd fw fv n (30 * mn + 29) la) (mE ne ef rr rm (30 * mn + 29))).2.2.1) := (congrFun emf_32 19).symm.trans ((va_up_ne _ _ (by decide)).trans v_19)
          have v_20 : mf_32 20 = .long (lN (rk (mK nf fl fk fd fw fv n (30 * mn + 29) la) (mE ne ef rr rm (30 * mn + 29))).2.2.2) := (congrFun emf_32 20).symm.trans ((va_up_ne _ _ (by decide)).trans v_20)
          have v_27 : mf_32 27 = .ref a27 := (congrFun emf_32 27).symm.trans ((va_up_ne _ _ (by decide)).trans v_27)
          have v_28 : mf_32 28 = .ref a28 := (congrFun emf_32 28).symm.trans ((va_up_ne _ _ (by decide)).trans v_28)
          have v_29 : mf_32 29 = .ref a29 := (congrFun emf_32 29).symm.trans ((va_up_ne _ _ (by decide)).trans v_29)
          have v_31 : mf_32 31 = .ref a31 := (congrFun emf_32 31).symm.trans ((va_up_ne _ _ (by decide)).trans v_31)
          have v_32 : mf_32 32 = .ref a32 := (congrFun emf_32 32).symm.trans ((va_up_ne _ _ (by decide)).trans v_32)
          have v_33 : mf_32 33 = .ref a33 := (congrFun emf_32 33).symm.trans ((va_up_ne _ _ (by decide)).trans v_33)
          have v_30 : mf_32 30 = .int (nI (rn1 + 1)) := (congrFun emf_32 30).symm.trans (va_up_self _ _ _)
          generalize eh_33 : fU h_31 x (40, 0, .inr (8, mo mf_32)) = h_33 at hI
          have hX := hX.set (e := .inr (8, mo mf_32)) g_x (by decide); rw [eh_33] at hX
          have hF := hF.set (e := .inr (8, mo mf_32)) g_x (by decide); rw [eh_33] at hF
          have g_a27 : h_33 a27 = some (68, 0, .inl ((G.2.1 0), 90030, .inl (fun i => nI (va_up (va_up th1 (mn * 30 + n) 0) ((mn * 30) + n) 2 i)))) := (congrFun eh_33 a27).symm.trans (fU_keep g_a27 (f_neR g_a27 g_x (by decide)))
          have g_a28 : h_33 a28 = some (69, 0, .inl ((G.2.1 1), 90030, .inr (.inl (fun i => lN (va_up du1 ((mn * 30) + n) ((rk (mK nf fl fk fd fw fv n (30 * mn + 29) la) (mE ne ef rr rm (30 * mn + 29))).2.2.2 / 100000000000) i))))) := (congrFun eh_33 a28).symm.trans (fU_keep g_a28 (f_neR g_a28 g_x (by decide)))
          have g_a29 : h_33 a29 = some (70, 0, .inl ((G.2.1 2), 3001, .inl (fun i => nI (wr i)))) := (congrFun eh_33 a29).symm.trans (fU_keep g_a29 (f_neR g_a29 g_x (by decide)))
          have g_a31 : h_33 a31 = some (72, 0, .inl ((G.2.1 0), 30, .inl (fun i => nI (va_up rl1 rn1 n i)))) := (congrFun eh_33 a31).symm.trans (fU_keep g_a31 (f_neR g_a31 g_x (by decide)))
          have g_a32 : h_33 a32 = some (73, 0, .inl ((G.2.1 1), 30, .inr (.inl (vp_updL rD1 rn1 (-9223372036854775808))))) := (congrFun eh_33 a32).symm.trans (fU_keep g_a32 (f_neR g_a32 g_x (by decide)))
          have g_a33 : h_33 a33 = some (74, 0, .inl ((G.2.1 1), 30, .inr (.inl (vp_updL rM1 rn1 0)))) := (congrFun eh_33 a33).symm.trans (fU_keep g_a33 (f_neR g_a33 g_x (by decide)))
          have hW9 : fF (inR [40]) h_31 h_33 := by rw [← eh_33]; exact fF.rf.set g_x (by decide)
          have g_x : h_33 x = some (40, 0, .inr (8, mo mf_32)) := (congrFun eh_33 x).symm.trans (fU_self _ _ _)
          have hFc := mFc.keep (mf' := mf_32) hFc (fun j h1 h2 => (congrFun emf_32 j).symm.trans (va_up_ne _ _ (ne_out h1 h2 (by decide)))) hW9 (by decide)
          have hEd := mEd.keep (mf' := mf_32) hEd (fun j h1 h2 => (congrFun emf_32 j).symm.trans (va_up_ne _ _ (ne_out h1 h2 (by decide)))) hW9 (by decide)
          have hS0 := mS0.keep (mf' := mf_32) hS0 (fun j h1 h2 => (congrFun emf_32 j).symm.trans (va_up_ne _ _ (ne_out h1 h2 (by decide)))) hW9 (by decide)
          have hm1 : ∀ j, j < 14 ∨ (20 < j ∧ j < 30) ∨ 30 < j → mf_32 j = mf j := fun j hj => (congrFun emf_32 j).symm.trans ((va_up_ne _ _ (by omega)).trans (hm1 j hj))
          refine lv_iinc (v := nI (n + 1)) (lv' := [(2, .int (nI (n + 1))), (7, .int 0), (5, .long (lN (du1 ((mn * 30) + n)))), (4, .int (nI (th1 ((mn * 30) + n)))), (3, .int (nI ((mn * 30) + n))), (0, .ref x), (1, .int (nI mn))]) hx hb d_MO_returned_185 hl (k := 6) rfl (f_inc1 _) (by decide) rfl (fun ls hl => ?_)
          refine lv_goto (tgt := 16) hx hb d_MO_returned_188 (by decide) ?_
          have hRS2 := rtS_yes (b := false) (v := (rk (mK nf fl fk fd fw fv n (30 * mn + 29) la) (mE ne ef rr rm (30 * mn + 29))).2.2.2 / CT) hRS hL (decide_eq_false hk1) rfl
          unfold rtA at hRS2
          simp only [Bool.false_eq_true, if_false] at hRS2
          refine ih (n + 1) (by omega) _ _ _ _ _ _ hRS2 (by omega) _ mf_32 _ _ g_x v_13 hFc hEd hS0 ⟨a27, a28, a29, a31, a32, a33, ⟨v_27, v_28, v_29, v_30, v_31, v_32, v_33⟩, ⟨g_a27, g_a28, g_a29, g_a31, g_a32, g_a33⟩, (by omega), (up_le (up_le bth1 (Nat.zero_le _)) (by decide)), (up_le bdu1 hcq), bwr, (up_lt brl1 hn2)⟩ hm1 hF hX hI ls ?_
          exact lv_sub hl [5, 6, 0] rfl
      · refine f_asi (if_neg hL) ?_
        refine lv_if_eq (tgt := 185) hx hb d_MO_returned_58 (by decide) (fun c_34 => ?_) (fun c_34 => absurd (by decide) c_34)
        refine lv_iinc (v := nI (n + 1)) (lv' := [(2, .int (nI (n + 1))), (5, .long (lN (du1 ((mn * 30) + n)))), (4, .int (nI (th1 ((mn * 30) + n)))), (3, .int (nI ((mn * 30) + n))), (0, .ref x), (1, .int (nI mn))]) hx hb d_MO_returned_185 hl (k := 5) rfl (f_inc1 _) (by decide) rfl (fun ls hl => ?_)
        refine lv_goto (tgt := 16) hx hb d_MO_returned_188 (by decide) ?_
        refine ih (n + 1) (by omega) (va_up th1 (mn * 30 + n) 0) du1 rn1 rl1 rD1 rM1 (rtS_no hRS hL) (by omega) _ mf1 _ _ g_x v_13 hFc hEd hS0 ⟨a27, a28, a29, a31, a32, a33, ⟨v_27, v_28, v_29, v_30, v_31, v_32, v_33⟩, ⟨g_a27, g_a28, g_a29, g_a31, g_a32, g_a33⟩, (by omega), (up_le bth1 (Nat.zero_le _)), bdu1, bwr, brl1⟩ hm1 hF hX hI ls ?_
        exact lv_sub hl [4, 5, 0] rfl
  refine lv_iload_n hx hb d_MO_returned_0 rfl (lv_at hl 1 rfl) ?_
  refine f_calli hI (f_runS C hI (c_MO_isMonth l G h _ (nI mn)) gm_MO_isMonth w_1067 w_1066 rfl hl.1 rfl (Nat.le_of_ble_eq_true rfl) ⟨Nat.le_of_ble_eq_true rfl, Nat.le_of_ble_eq_true rfl⟩ d_MO_returned_1 ⟨Nat.le_of_ble_eq_true rfl, Nat.le_of_ble_eq_true rfl⟩) (fun r_35 h8 H9 locs hp9 hX9 hz9 hI => ?_)
  obtain ⟨rfl, e9⟩ := hp9
  rw [e9] at hI
  clear hX9 e9
  rw [rng_ok (a := nI mn) (N := 3001) (nI_pos (by omega)) (fun q => absurd ((n_le (a := 3001) (b := mn) (by omega) (by omega)).mp q) (by omega))]
  refine lv_if_ne (tgt := 9) hx hb d_MO_returned_4 (by decide) (fun c_36 => ?_) (fun c_36 => absurd c_36 (by decide))
  refine lv_aload_n hx hb d_MO_returned_9 rfl (lv_at hl 0 rfl) ?_
  refine lv_iconst (v := 0) hx hb d_MO_returned_10 (by decide) ?_
  refine f_put (C := "DutyRulesModel") (T := T_MO) (N := 40) (fs' := mo (va_up mf 30 (.int 0))) (v := .int 0) hx hb (fun w q => hT w (s_MO w q)) t_MO k_MO n_MO hown hK hI g_x (by decide) rfl 30 (by decide) (hT _ w_839) (fun _ q => q) rfl rfl rfl (by rw [mo_len]; decide) (mo_set _) d_MO_returned_11 (fun H locs hI => ?_)
  generalize emf_37 : va_up mf 30 (.int 0) = mf_37 at hI
  have v_13 : mf_37 13 = .long (lN la) := (congrFun emf_37 13).symm.trans ((va_up_ne _ _ (by decide)).trans v_13)
  have v_27 : mf_37 27 = .ref a27 := (congrFun emf_37 27).symm.trans ((va_up_ne _ _ (by decide)).trans v_27)
  have v_28 : mf_37 28 = .ref a28 := (congrFun emf_37 28).symm.trans ((va_up_ne _ _ (by decide)).trans v_28)
  have v_29 : mf_37 29 = .ref a29 := (congrFun emf_37 29).symm.trans ((va_up_ne _ _ (by decide)).trans v_29)
  have v_31 : mf_37 31 = .ref a31 := (congrFun emf_37 31).symm.trans ((va_up_ne _ _ (by decide)).trans v_31)
  have v_32 : mf_37 32 = .ref a32 := (congrFun emf_37 32).symm.trans ((va_up_ne _ _ (by decide)).trans v_32)
  have v_33 : mf_37 33 = .ref a33 := (congrFun emf_37 33).symm.trans ((va_up_ne _ _ (by decide)).trans v_33)
  have v_30 : mf_37 30 = .int 0 := (congrFun emf_37 30).symm.trans (va_up_self _ _ _)
  generalize eh_38 : fU h x (40, 0, .inr (8, mo mf_37)) = h_38 at hI
  have hX := hX.set (e := .inr (8, mo mf_37)) g_x (by decide); rw [eh_38] at hX
  have hF := hF.set (e := .inr (8, mo mf_37)) g_x (by decide); rw [eh_38] at hF
  have g_a27 : h_38 a27 = some (68, 0, .inl ((G.2.1 0), 90030, .inl (fun i => nI (th i)))) := (congrFun eh_38 a27).symm.trans (fU_keep g_a27 (f_neR g_a27 g_x (by decide)))
  have g_a28 : h_38 a28 = some (69, 0, .inl ((G.2.1 1), 90030, .inr (.inl (fun i => lN (du i))))) := (congrFun eh_38 a28).symm.trans (fU_keep g_a28 (f_neR g_a28 g_x (by decide)))
  have g_a29 : h_38 a29 = some (70, 0, .inl ((G.2.1 2), 3001, .inl (fun i => nI (wr i)))) := (congrFun eh_38 a29).symm.trans (fU_keep g_a29 (f_neR g_a29 g_x (by decide)))
  have g_a31 : h_38 a31 = some (72, 0, .inl ((G.2.1 0), 30, .inl (fun i => nI (rl i)))) := (congrFun eh_38 a31).symm.trans (fU_keep g_a31 (f_neR g_a31 g_x (by decide)))
  have g_a32 : h_38 a32 = some (73, 0, .inl ((G.2.1 1), 30, .inr (.inl rD))) := (congrFun eh_38 a32).symm.trans (fU_keep g_a32 (f_neR g_a32 g_x (by decide)))
  have g_a33 : h_38 a33 = some (74, 0, .inl ((G.2.1 1), 30, .inr (.inl rM))) := (congrFun eh_38 a33).symm.trans (fU_keep g_a33 (f_neR g_a33 g_x (by decide)))
  have hW9 : fF (inR [40]) h h_38 := by rw [← eh_38]; exact fF.rf.set g_x (by decide)
  have g_x : h_38 x = some (40, 0, .inr (8, mo mf_37)) := (congrFun eh_38 x).symm.trans (fU_self _ _ _)
  have hFc := mFc.keep (mf' := mf_37) hFc (fun j h1 h2 => (congrFun emf_37 j).symm.trans (va_up_ne _ _ (ne_out h1 h2 (by decide)))) hW9 (by decide)
  have hEd := mEd.keep (mf' := mf_37) hEd (fun j h1 h2 => (congrFun emf_37 j).symm.trans (va_up_ne _ _ (ne_out h1 h2 (by decide)))) hW9 (by decide)
  have hS0 := mS0.keep (mf' := mf_37) hS0 (fun j h1 h2 => (congrFun emf_37 j).symm.trans (va_up_ne _ _ (ne_out h1 h2 (by decide)))) hW9 (by decide)
  have hm1 : ∀ j, j < 14 ∨ (20 < j ∧ j < 30) ∨ 30 < j → mf_37 j = mf j := fun j hj => (congrFun emf_37 j).symm.trans ((va_up_ne _ _ (by omega)).trans (hm1 j hj))
  refine lv_iconst (v := 0) hx hb d_MO_returned_14 (by decide) ?_
  refine lv_istore_n (lv' := [(2, .int 0), (0, .ref x), (1, .int (nI mn))]) hx hb d_MO_returned_15 rfl hl (by decide) rfl (fun ls hl => ?_)
  exact LOOP 30 0 (by omega) th du 0 rl rD rM rfl (Nat.le_refl _) _ mf_37 _ _ g_x v_13 hFc hEd hS0 ⟨a27, a28, a29, a31, a32, a33, ⟨v_27, v_28, v_29, v_30, v_31, v_32, v_33⟩, ⟨g_a27, g_a28, g_a29, g_a31, g_a32, g_a33⟩, Nat.zero_le _, bth, bdu, bwr, brl⟩ hm1 hF hX hI ls (lv_sub hl [1, 2, 0] rfl)
