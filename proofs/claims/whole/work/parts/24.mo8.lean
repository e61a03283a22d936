theorem gm_MO_allowed : gM y_MO_allowed b_MO_allowed 6 (some .long) 2 := ⟨w_1065, w_10, ⟨by decide, by decide⟩, by decide +kernel⟩
set_option maxHeartbeats 4000000 in
set_option maxRecDepth 100000 in
/-- MO_allowed  -/
theorem c_MO_allowed_no (l : Launch) (G : gG) (h : fH) (sz : Nat) (x : Nat) (mo1 pt : Int32) (hbad : (mo1 < 0 ∨ 3001 ≤ mo1) ∨ pt < 0 ∨ ¬ pt ≤ 1) : cM l y_MO_allowed b_MO_allowed 6 (some .long) { frames := 2, cells := 0, slots := 0, locals := 73 } G [.ref x, .int mo1, .int pt] h sz (cQl G h sz (fun r h' => r = -1 ∧ h' = h)) := by
  refine f_start (by decide) (Nat.le_of_ble_eq_true rfl) ?_
  intro p e s m below meth c ls C hr hsz hI hl
  obtain ⟨hx, hb, hml, hown, hnm, hlk, hT, hG, hZ⟩ := id C
  have hK := hG.1
  have hX : fX h sz h := fX.rf
  have hl : lv_has ls 6 [(0, .ref x), (1, .int mo1), (2, .int pt)] := hl
  refine lv_iload_n hx hb d_MO_allowed_0 rfl (lv_at hl 1 rfl) ?_
  refine f_calli hI (f_runS C hI (c_MO_isMonth l G h _ mo1) gm_MO_isMonth w_1067 w_1066 rfl hl.1 rfl (Nat.le_of_ble_eq_true rfl) ⟨Nat.le_of_ble_eq_true rfl, Nat.le_of_ble_eq_true rfl⟩ d_MO_allowed_1 ⟨Nat.le_of_ble_eq_true rfl, Nat.le_of_ble_eq_true rfl⟩) (fun r_1 h8 H9 locs hp9 hX9 hz9 hI => ?_)
  obtain ⟨rfl, e9⟩ := hp9
  rw [e9] at hI
  clear hX9 e9
  refine lv_if_eq (tgt := 16) hx hb d_MO_allowed_4 (by decide) (fun c_2 => ?_) (fun c_2 => ?_)
  · skip
    refine lv_ldc2 (v := (-1)) hx hb hown (hT _ w_1069) d_MO_allowed_16 ?_
    exact f_lret C hr hI ⟨rfl, rfl⟩ hX (Nat.le_refl _) (Nat.le_refl _) d_MO_allowed_19
  · skip
    refine lv_iload_n hx hb d_MO_allowed_7 rfl (lv_at hl 2 rfl) ?_
    refine lv_if_lt (tgt := 16) hx hb d_MO_allowed_8 (by decide) (fun c_3 => ?_) (fun c_3 => ?_)
    · skip
      refine lv_ldc2 (v := (-1)) hx hb hown (hT _ w_1069) d_MO_allowed_16 ?_
      exact f_lret C hr hI ⟨rfl, rfl⟩ hX (Nat.le_refl _) (Nat.le_refl _) d_MO_allowed_19
    · skip
      refine lv_iload_n hx hb d_MO_allowed_11 rfl (lv_at hl 2 rfl) ?_
      refine lv_iconst (v := 1) hx hb d_MO_allowed_12 (by decide) ?_
      refine lv_icmp_le (tgt := 20) hx hb d_MO_allowed_13 (by decide) (fun c_4 => ?_) (fun c_4 => ?_)
      · skip
        exfalso
        rcases hbad with q | q | q
        · exact rng_no c_2 q
        · exact c_3 q
        · exact q c_4
      · skip
        refine lv_ldc2 (v := (-1)) hx hb hown (hT _ w_1069) d_MO_allowed_16 ?_
        exact f_lret C hr hI ⟨rfl, rfl⟩ hX (Nat.le_refl _) (Nat.le_refl _) d_MO_allowed_19
set_option maxHeartbeats 4000000 in
set_option maxRecDepth 100000 in
/-- MO_allowed  -/
theorem c_MO_allowed_ok (l : Launch) (G : gG) (h : fH) (sz : Nat) (x mn : Nat) (pt : Int32) (mf : Nat → Value) (g_x : h x = some (40, 0, .inr (8, mo mf))) (nf : Nat) (fl fk fd fw fv : Nat → Nat) (hFc : mFc G h mf nf fl fk fd fw fv) (ne : Nat) (ef rr rm : Nat → Nat) (hEd : mEd G h mf ne ef rr rm) (hS0 : mS0 G h mf) (bm : mn ≤ 3000) (hp1 : ¬ pt < 0) (hp2 : pt ≤ 1) : cM l y_MO_allowed b_MO_allowed 6 (some .long) { frames := 2, cells := 0, slots := 0, locals := 73 } G [.ref x, .int (nI mn), .int pt] h sz (cQl G h sz (fun r h' => r = (if pt = 0 then lN ((sumN (fun l => (rk (mK nf fl fk fd fw fv l (30 * mn + 29) (30 * mn + 29)) (mE ne ef rr rm (30 * mn + 29))).2.2.1) 30) / Nat.gcd (sumN (fun l => (rk (mK nf fl fk fd fw fv l (30 * mn + 29) (30 * mn + 29)) (mE ne ef rr rm (30 * mn + 29))).2.2.1) 30) 10000) else lN (10000 / Nat.gcd (sumN (fun l => (rk (mK nf fl fk fd fw fv l (30 * mn + 29) (30 * mn + 29)) (mE ne ef rr rm (30 * mn + 29))).2.2.1) 30) 10000)) ∧ ∃ mf', h' x = some (40, 0, .inr (8, mo mf')) ∧ (∀ j, j < 14 ∨ 20 < j → mf' j = mf j) ∧ mS0 G h' mf' ∧ fF (inR [40, 56, 57, 58]) h h')) := by
  refine f_start (by decide) (Nat.le_of_ble_eq_true rfl) ?_
  intro p e s m below meth c ls C hr hsz hI hl
  obtain ⟨hx, hb, hml, hown, hnm, hlk, hT, hG, hZ⟩ := id C
  have hK := hG.1
  have hX : fX h sz h := fX.rf
  have hl : lv_has ls 6 [(0, .ref x), (1, .int (nI mn)), (2, .int pt)] := hl
  obtain ⟨_, _, _, _, _, bne, brm, bef, brr, brk⟩ := id hEd
  obtain ⟨_, _, _, _, _, _, _, bnf, bfl, bfk, bfd, bfw, bfv0⟩ := id hFc
  have hz0 := hI.2.2.2.1
  have hfb : ∀ l, (fun l => (rk (mK nf fl fk fd fw fv l (30 * mn + 29) (30 * mn + 29)) (mE ne ef rr rm (30 * mn + 29))).2.2.1) l ≤ 100000000 := fun l => (rk_bd (mK_ok (lot := l) (day := 30 * mn + 29) (on := 30 * mn + 29) bnf bfv0) (mE_ok (day := 30 * mn + 29) bne brk)).2.1
  have LOOP : ∀ (k n : Nat), n + k = 30 → ∀ (h1 : fH) (mf1 : Nat → Value) (H : Heap) (locs : List Loc), h1 x = some (40, 0, .inr (8, mo mf1)) → mFc G h1 mf1 nf fl fk fd fw fv → mEd G h1 mf1 ne ef rr rm → mS0 G h1 mf1 → (∀ j, j < 14 ∨ 20 < j → mf1 j = mf j) → fF (inR [40, 56, 57, 58]) h h1 → fX h sz h1 → fI G.1 g_cl (fA h sz) s.heap h1 H locs → ∀ ls : Array Slot, lv_has ls 6 [(0, .ref x), (1, .int (nI mn)), (2, .int pt), (3, .long (lN (sumN (fun l => (rk (mK nf fl fk fd fw fv l (30 * mn + 29) (30 * mn + 29)) (mE ne ef rr rm (30 * mn + 29))).2.2.1) n))), (5, .int (nI n))] → W p l e { frames := 2, cells := 0, slots := 0, locals := 73 } s m ([.ref x, .int (nI mn), .int pt] : List Value).toArray below meth c H locs 0 0 (MQ below (cQl G h sz (fun r h' => r = (if pt = 0 then lN ((sumN (fun l => (rk (mK nf fl fk fd fw fv l (30 * mn + 29) (30 * mn + 29)) (mE ne ef rr rm (30 * mn + 29))).2.2.1) 30) / Nat.gcd (sumN (fun l => (rk (mK nf fl fk fd fw fv l (30 * mn + 29) (30 * mn + 29)) (mE ne ef rr rm (30 * mn + 29))).2.2.1) 30) 10000) else lN (10000 / Nat.gcd (sumN (fun l => (rk (mK nf fl fk fd fw fv l (30 * mn + 29) (30 * mn + 29)) (mE ne ef rr rm (30 * mn + 29))).2.2.1) 30) 10000)) ∧ ∃ mf', h' x = some (40, 0, .inr (8, mo mf')) ∧ (∀ j, j < 14 ∨ 20 < j → mf' j = mf j) ∧ mS0 G h' mf' ∧ fF (inR [40, 56, 57, 58]) h h')) ([.ref x, .int (nI mn), .int pt] : List Value).toArray s 0 0 (fA h sz)) (F0 m 25 ls []) := by
    intro k
    induction k with
    | zero =>
      intro n hn h1 mf1 H locs g_x hFc hEd hS0 hm1 hF hX hI ls hl
      have hn2 : 30 = n := by omega
      subst hn2
      have hs9 := sumN_le hfb 30
      refine lv_iload hx hb d_MO_allowed_25 (lv_at hl 4 rfl) ?_
      refine lv_bipush (v := 30) hx hb d_MO_allowed_27 (by decide) ?_
      refine lv_icmp_ge (tgt := 66) hx hb d_MO_allowed_29 (by decide) (fun c_1 => ?_) (fun c_1 => absurd (by decide) c_1)
      refine lv_lload_n hx hb d_MO_allowed_66 rfl (lv_at hl 3 rfl) ?_
      refine lv_ldc2 (v := 10000) hx hb hown (hT _ w_1006) d_MO_allowed_67 ?_
      refine lv_iload_n hx hb d_MO_allowed_70 rfl (lv_at hl 2 rfl) ?_
      refine f_calll hI (f_runS C hI (c_MO_fraction l G h1 _ (sumN (fun l => (rk (mK nf fl fk fd fw fv l (30 * mn + 29) (30 * mn + 29)) (mE ne ef rr rm (30 * mn + 29))).2.2.1) 30) 10000 pt (by omega) (by omega) (by decide)) gm_MO_fraction w_1048 w_1047 rfl hl.1 rfl (Nat.le_of_ble_eq_true rfl) ⟨Nat.le_of_ble_eq_true rfl, Nat.le_of_ble_eq_true rfl⟩ d_MO_allowed_71 ⟨Nat.le_of_ble_eq_true rfl, Nat.le_of_ble_eq_true rfl⟩) (fun r_2 h8 H9 locs hp9 hX9 hz9 hI => ?_)
      obtain ⟨rfl, e9⟩ := hp9
      rw [e9] at hI
      clear hX9 e9
      exact f_lret C hr hI ⟨rfl, mf1, g_x, hm1, hS0, hF⟩ hX (Nat.le_refl _) (Nat.le_refl _) d_MO_allowed_74
    | succ k ih =>
      intro n hn h1 mf1 H locs g_x hFc hEd hS0 hm1 hF hX hI ls hl
      have ih : ∀ n : Nat, n + k = 30 → ∀ (h1 : fH) (mf1 : Nat → Value) (H : Heap) (locs : List Loc), h1 x = some (40, 0, .inr (8, mo mf1)) → mFc G h1 mf1 nf fl fk fd fw fv → mEd G h1 mf1 ne ef rr rm → mS0 G h1 mf1 → (∀ j, j < 14 ∨ 20 < j → mf1 j = mf j) → fF (inR [40, 56, 57, 58]) h h1 → fX h sz h1 → fI G.1 g_cl (fA h sz) s.heap h1 H locs → ∀ ls : Array Slot, lv_has ls 6 [(0, .ref x), (1, .int (nI mn)), (2, .int pt), (3, .long (lN (sumN (fun l => (rk (mK nf fl fk fd fw fv l (30 * mn + 29) (30 * mn + 29)) (mE ne ef rr rm (30 * mn + 29))).2.2.1) n))), (5, .int (nI n))] → W p l e { frames := 2, cells := 0, slots := 0, locals := 73 } s m ([.ref x, .int (nI mn), .int pt] : List Value).toArray below meth c H locs 0 0 (MQ below (cQl G h sz (fun r h' => r = (if pt = 0 then lN ((sumN (fun l => (rk (mK nf fl fk fd fw fv l (30 * mn + 29) (30 * mn + 29)) (mE ne ef rr rm (30 * mn + 29))).2.2.1) 30) / Nat.gcd (sumN (fun l => (rk (mK nf fl fk fd fw fv l (30 * mn + 29) (30 * mn + 29)) (mE ne ef rr rm (30 * mn + 29))).2.2.1) 30) 10000) else lN (10000 / Nat.gcd (sumN (fun l => (rk (mK nf fl fk fd fw fv l (30 * mn + 29) (30 * mn + 29)) (mE ne ef rr rm (30 * mn + 29))).2.2.1) 30) 10000)) ∧ ∃ mf', h' x = some (40, 0, .inr (8, mo mf')) ∧ (∀ j, j < 14 ∨ 20 < j → mf' j = mf j) ∧ mS0 G h' mf' ∧ fF (inR [40, 56, 57, 58]) h h')) ([.ref x, .int (nI mn), .int pt] : List Value).toArray s 0 0 (fA h sz)) (F0 m 25 ls []) := ih
      have hn2 : n < 30 := by omega
      obtain ⟨_, _, _, _, _, _, _, hSt⟩ := id hS0
      have hz7 := hI.2.2.2.1
      refine lv_iload hx hb d_MO_allowed_25 (lv_at hl 4 rfl) ?_
      refine lv_bipush (v := 30) hx hb d_MO_allowed_27 (by decide) ?_
      refine lv_icmp_ge (tgt := 66) hx hb d_MO_allowed_29 (by decide) (fun c_3 => absurd c_3 (fun q => absurd ((n_le (a := 30) (b := n) (by omega) (by omega)).mp q) (by omega))) (fun c_3 => ?_)
      refine lv_lload_n hx hb d_MO_allowed_32 rfl (lv_at hl 3 rfl) ?_
      refine lv_aload_n hx hb d_MO_allowed_33 rfl (lv_at hl 0 rfl) ?_
      refine lv_iload hx hb d_MO_allowed_34 (lv_at hl 4 rfl) ?_
      refine lv_iload_n hx hb d_MO_allowed_36 rfl (lv_at hl 1 rfl) ?_
      refine f_calll hI (f_runS C hI (c_MO_lastOf l G h1 _ (nI mn)) gm_MO_lastOf w_1071 w_1070 rfl hl.1 rfl (Nat.le_of_ble_eq_true rfl) ⟨Nat.le_of_ble_eq_true rfl, Nat.le_of_ble_eq_true rfl⟩ d_MO_allowed_37 ⟨Nat.le_of_ble_eq_true rfl, Nat.le_of_ble_eq_true rfl⟩) (fun r_4 h8 H9 locs hp9 hX9 hz9 hI => ?_)
      obtain ⟨rfl, e9⟩ := hp9
      rw [e9] at hI
      clear hX9 e9
      refine f_asl (lastOf_n (m := mn) (by omega)) ?_
      refine lv_iload_n hx hb d_MO_allowed_40 rfl (lv_at hl 1 rfl) ?_
      refine f_calll hI (f_runS C hI (c_MO_lastOf l G h1 _ (nI mn)) gm_MO_lastOf w_1071 w_1070 rfl hl.1 rfl (Nat.le_of_ble_eq_true rfl) ⟨Nat.le_of_ble_eq_true rfl, Nat.le_of_ble_eq_true rfl⟩ d_MO_allowed_41 ⟨Nat.le_of_ble_eq_true rfl, Nat.le_of_ble_eq_true rfl⟩) (fun r_5 h8 H9 locs hp9 hX9 hz9 hI => ?_)
      obtain ⟨rfl, e9⟩ := hp9
      rw [e9] at hI
      clear hX9 e9
      refine f_asl (lastOf_n (m := mn) (by omega)) ?_
      have hz8 := hI.2.2.2.1
      refine f_calli hI (f_runV C hI (c_MO_reckon l G h1 _ x n (30 * mn + 29) (30 * mn + 29) mf1 g_x nf fl fk fd fw fv hFc ne ef rr rm hEd _ _ _ _ _ _ _ hSt hn2 (by omega) (by omega)) gm_MO_reckon w_1020 p_MO_reckon w_1018 g_x rfl rfl rfl hl.1 rfl (Nat.le_of_ble_eq_true rfl) ⟨Nat.le_of_ble_eq_true rfl, Nat.le_of_ble_eq_true rfl⟩ d_MO_allowed_44 ⟨Nat.le_of_ble_eq_true rfl, Nat.le_of_ble_eq_true rfl⟩) (fun r_6 h9 H9 locs hp9 hX9 hz9 hI => ?_)
      obtain ⟨rfl, mf_7, g_x, hm9, hSd, hF9⟩ := hp9
      have hFc := hFc.keep (fun j h1 h2 => hm9 j (Or.inl (Nat.lt_of_le_of_lt h2 (by decide)))) hF9 (by decide)
      have hEd := hEd.keep (fun j h1 h2 => hm9 j (Or.inl (Nat.lt_of_le_of_lt h2 (by decide)))) hF9 (by decide)
      have hm1 : ∀ j, j < 14 ∨ 20 < j → mf_7 j = mf j := fun j hj => (hm9 j hj).trans (hm1 j hj)
      have hF := hF.tr (hF9.mono (fun r o q => q))
      have hX := fX.tr (by omega) hX hX9
      have hbd : (rk (mK nf fl fk fd fw fv n (30 * mn + 29) (30 * mn + 29)) (mE ne ef rr rm (30 * mn + 29))).2.2.2 ≤ 2100000000000000000 ∧ (rk (mK nf fl fk fd fw fv n (30 * mn + 29) (30 * mn + 29)) (mE ne ef rr rm (30 * mn + 29))).2.2.1 ≤ 100000000 ∧ (rk (mK nf fl fk fd fw fv n (30 * mn + 29) (30 * mn + 29)) (mE ne ef rr rm (30 * mn + 29))).2.1.length ≤ 5 := rk_bd (mK_ok bnf bfv0) (mE_ok bne brk)
      by_cases hk1 : (rk (mK nf fl fk fd fw fv n (30 * mn + 29) (30 * mn + 29)) (mE ne ef rr rm (30 * mn + 29))).1 = -1
      · refine f_asi (if_pos hk1) ?_
        have hS0 := hSd.s0
        obtain ⟨sl, sr, sc, hSt, hq⟩ := hSd
        obtain ⟨a15, a16, a17, ⟨v_14, v_15, v_16, v_17, v_18, v_19, v_20⟩, ⟨g_a15, g_a16, g_a17⟩⟩ := id hSt
        refine lv_if_eq (tgt := 57) hx hb d_MO_allowed_47 (by decide) (fun c_8 => absurd c_8 (by decide)) (fun c_8 => ?_)
        refine lv_aload_n hx hb d_MO_allowed_50 rfl (lv_at hl 0 rfl) ?_
        refine f_get (C := "DutyRulesModel") (T := T_MO) (N := 40) hx hb (fun w q => hT w (s_MO w q)) hown hK hI g_x rfl 19 (by decide) (hT _ w_828) (fun _ q => q) (mo_get (by decide) v_19) d_MO_allowed_51 ?_
        refine lv_goto (tgt := 58) hx hb d_MO_allowed_54 (by decide) ?_
        refine lv_ladd hx hb d_MO_allowed_58 ?_
        refine f_asl (lN_add (sumN (fun l => (rk (mK nf fl fk fd fw fv l (30 * mn + 29) (30 * mn + 29)) (mE ne ef rr rm (30 * mn + 29))).2.2.1) n) (rk (mK nf fl fk fd fw fv n (30 * mn + 29) (30 * mn + 29)) (mE ne ef rr rm (30 * mn + 29))).2.2.1) ?_
        refine lv_lstore_n (lv' := [(3, .long (lN ((sumN (fun l => (rk (mK nf fl fk fd fw fv l (30 * mn + 29) (30 * mn + 29)) (mE ne ef rr rm (30 * mn + 29))).2.2.1) n) + (rk (mK nf fl fk fd fw fv n (30 * mn + 29) (30 * mn + 29)) (mE ne ef rr rm (30 * mn + 29))).2.2.1))), (0, .ref x), (1, .int (nI mn)), (2, .int pt), (5, .int (nI n))]) hx hb d_MO_allowed_59 rfl hl (by decide) rfl (fun ls hl => ?_)
        refine lv_iinc (v := nI (n + 1)) (lv' := [(5, .int (nI (n + 1))), (3, .long (lN ((sumN (fun l => (rk (mK nf fl fk fd fw fv l (30 * mn + 29) (30 * mn + 29)) (mE ne ef rr rm (30 * mn + 29))).2.2.1) n) + (rk (mK nf fl fk fd fw fv n (30 * mn + 29) (30 * mn + 29)) (mE ne ef rr rm (30 * mn + 29))).2.2.1))), (0, .ref x), (1, .int (nI mn)), (2, .int pt)]) hx hb d_MO_allowed_60 hl (k := 4) rfl (f_inc1 _) (by decide) rfl (fun ls hl => ?_)
        refine lv_goto (tgt := 25) hx hb d_MO_allowed_63 (by decide) ?_
        refine ih (n + 1) (by omega) _ mf_7 _ _ g_x hFc hEd hS0 hm1 hF hX hI ls ?_
        exact lv_sub hl [2, 3, 4, 1, 0] rfl
      · refine f_asi (if_neg hk1) ?_
        have hd0 := rk_open hk1
        have hS0 := hSd.s0
        obtain ⟨sl, sr, sc, hSt, hq⟩ := hSd
        obtain ⟨a15, a16, a17, ⟨v_14, v_15, v_16, v_17, v_18, v_19, v_20⟩, ⟨g_a15, g_a16, g_a17⟩⟩ := id hSt
        have hfr : (fun l => (rk (mK nf fl fk fd fw fv l (30 * mn + 29) (30 * mn + 29)) (mE ne ef rr rm (30 * mn + 29))).2.2.1) n = 0 := by show (rk _ _).2.2.1 = 0; rw [hd0]; rfl
        refine lv_if_eq (tgt := 57) hx hb d_MO_allowed_47 (by decide) (fun c_9 => ?_) (fun c_9 => absurd rfl c_9)
        refine lv_lconst (v := 0) hx hb d_MO_allowed_57 (by decide) ?_
        refine lv_ladd hx hb d_MO_allowed_58 ?_
        refine f_asl (lN_add (sumN (fun l => (rk (mK nf fl fk fd fw fv l (30 * mn + 29) (30 * mn + 29)) (mE ne ef rr rm (30 * mn + 29))).2.2.1) n) 0) ?_
        refine lv_lstore_n (lv' := [(3, .long (lN ((sumN (fun l => (rk (mK nf fl fk fd fw fv l (30 * mn + 29) (30 * mn + 29)) (mE ne ef rr rm (30 * mn + 29))).2.2.1) n) + 0))), (0, .ref x), (1, .int (nI mn)), (2, .int pt), (5, .int (nI n))]) hx hb d_MO_allowed_59 rfl hl (by decide) rfl (fun ls hl => ?_)
        refine lv_iinc (v := nI (n + 1)) (lv' := [(5, .int (nI (n + 1))), (3, .long (lN ((sumN (fun l => (rk (mK nf fl fk fd fw fv l (30 * mn + 29) (30 * mn + 29)) (mE ne ef rr rm (30 * mn + 29))).2.2.1) n) + 0))), (0, .ref x), (1, .int (nI mn)), (2, .int pt)]) hx hb d_MO_allowed_60 hl (k := 4) rfl (f_inc1 _) (by decide) rfl (fun ls hl => ?_)
        refine lv_goto (tgt := 25) hx hb d_MO_allowed_63 (by decide) ?_
        refine ih (n + 1) (by omega) _ mf_7 _ _ g_x hFc hEd hS0 hm1 hF hX hI ls ?_
        rw [show sumN (fun l => (rk (mK nf fl fk fd fw fv l (30 * mn + 29) (30 * mn + 29)) (mE ne ef rr rm (30 * mn + 29))).2.2.1) (n + 1) = sumN (fun l => (rk (mK nf fl fk fd fw fv l (30 * mn + 29) (30 * mn + 29)) (mE ne ef rr rm (30 * mn + 29))).2.2.1) n + 0 by show sumN _ n + _ = _; rw [hfr]]
        exact lv_sub hl [2, 3, 4, 1, 0] rfl
  refine lv_iload_n hx hb d_MO_allowed_0 rfl (lv_at hl 1 rfl) ?_
  refine f_calli hI (f_runS C hI (c_MO_isMonth l G h _ (nI mn)) gm_MO_isMonth w_1067 w_1066 rfl hl.1 rfl (Nat.le_of_ble_eq_true rfl) ⟨Nat.le_of_ble_eq_true rfl, Nat.le_of_ble_eq_true rfl⟩ d_MO_allowed_1 ⟨Nat.le_of_ble_eq_true rfl, Nat.le_of_ble_eq_true rfl⟩) (fun r_10 h8 H9 locs hp9 hX9 hz9 hI => ?_)
  obtain ⟨rfl, e9⟩ := hp9
  rw [e9] at hI
  clear hX9 e9
  rw [rng_ok (a := nI mn) (N := 3001) (nI_pos (by omega)) (fun q => absurd ((n_le (a := 3001) (b := mn) (by omega) (by omega)).mp q) (by omega))]
  refine lv_if_eq (tgt := 16) hx hb d_MO_allowed_4 (by decide) (fun c_11 => absurd c_11 (by decide)) (fun c_11 => ?_)
  refine lv_iload_n hx hb d_MO_allowed_7 rfl (lv_at hl 2 rfl) ?_
  refine lv_if_lt (tgt := 16) hx hb d_MO_allowed_8 (by decide) (fun c_12 => absurd c_12 hp1) (fun c_12 => ?_)
  refine lv_iload_n hx hb d_MO_allowed_11 rfl (lv_at hl 2 rfl) ?_
  refine lv_iconst (v := 1) hx hb d_MO_allowed_12 (by decide) ?_
  refine lv_icmp_le (tgt := 20) hx hb d_MO_allowed_13 (by decide) (fun c_13 => ?_) (fun c_13 => absurd hp2 c_13)
  refine lv_lconst (v := 0) hx hb d_MO_allowed_20 (by decide) ?_
  refine lv_lstore_n (lv' := [(3, .long 0), (0, .ref x), (1, .int (nI mn)), (2, .int pt)]) hx hb d_MO_allowed_21 rfl hl (by decide) rfl (fun ls hl => ?_)
  refine lv_iconst (v := 0) hx hb d_MO_allowed_22 (by decide) ?_
  refine lv_istore (lv' := [(5, .int 0), (3, .long 0), (0, .ref x), (1, .int (nI mn)), (2, .int pt)]) hx hb d_MO_allowed_23 hl (by decide) rfl (fun ls hl => ?_)
  exact LOOP 30 0 (by omega) h mf _ _ g_x hFc hEd hS0 (fun _ _ => rfl) fF.rf hX hI ls (lv_sub hl [2, 3, 4, 1, 0] rfl)
