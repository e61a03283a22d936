theorem gm_MO_reckon : gM y_MO_reckon b_MO_reckon 25 (some .boolean) 3 := ⟨w_1021, w_10, ⟨by decide, by decide⟩, by decide +kernel⟩
set_option maxHeartbeats 4000000 in
set_option maxRecDepth 100000 in
/-- MO_reckon  -/
theorem c_MO_reckon (l : Launch) (G : gG) (h : fH) (sz : Nat) (x lot day on : Nat) (mf : Nat → Value) (g_x : h x = some (40, 0, .inr (8, mo mf))) (nf : Nat) (fl fk fd fw fv : Nat → Nat) (hFc : mFc G h mf nf fl fk fd fw fv) (ne : Nat) (ef rr rm : Nat → Nat) (hEd : mEd G h mf ne ef rr rm) (rs : Int32) (ns : Nat) (sl sr sc : Nat → Nat) (fr ce : Nat) (hSt : mSt G h mf rs ns sl sr sc fr ce) (blot : lot < 30) (bday : day ≤ 100000) (bon : on ≤ 100000) : cM l y_MO_reckon b_MO_reckon 25 (some .boolean) { frames := 1, cells := 0, slots := 0, locals := 29 } G [.ref x, .int (nI lot), .long (lN day), .long (lN on)] h sz (cQi G h sz (fun r h' => r = (if (rk (mK nf fl fk fd fw fv lot day on) (mE ne ef rr rm day)).1 = -1 then 1 else 0) ∧ ∃ mf', h' x = some (40, 0, .inr (8, mo mf')) ∧ (∀ j, j < 14 ∨ 20 < j → mf' j = mf j) ∧ mSd G h' mf' (rk (mK nf fl fk fd fw fv lot day on) (mE ne ef rr rm day)).1 (rk (mK nf fl fk fd fw fv lot day on) (mE ne ef rr rm day)).2 ∧ fF (inR [40, 56, 57, 58]) h h')) := by
  refine f_start (by decide) (Nat.le_of_ble_eq_true rfl) ?_
  intro p e s m below meth c ls C hr hsz hI hl
  obtain ⟨hx, hb, hml, hown, hnm, hlk, hT, hG, hZ⟩ := id C
  have hK := hG.1
  have hX : fX h sz h := fX.rf
  have hl : lv_has ls 25 [(0, .ref x), (1, .int (nI lot)), (2, .long (lN day)), (4, .long (lN on))] := hl
  have hF : fF (inR [40, 56, 57, 58]) h h := fF.rf
  obtain ⟨_, _, _, _, _, bne, brm, bef, brr, brk⟩ := id hEd
  obtain ⟨_, _, _, _, _, _, _, bnf, bfl, bfk, bfd, bfw, bfv0⟩ := id hFc
  have bfv : ∀ i, fv i ≤ 100000000 := fun i => Nat.le_trans (bfv0 i) (mostN_le _)
  have JE : ∀ (e1 g li rate pay : Nat), e1 < 11 → g ≤ 9 → li ≤ 1000000 → pay ≤ 1000000 → ∀ (h1 : fH) (mf1 : Nat → Value) (d : dst) (H : Heap) (locs : List Loc), h1 x = some (40, 0, .inr (8, mo mf1)) → mFc G h1 mf1 nf fl fk fd fw fv → mEd G h1 mf1 ne ef rr rm → mSd G h1 mf1 (-1) d → (∀ j, j < 14 ∨ 20 < j → mf1 j = mf j) → fF (inR [40, 56, 57, 58]) h h1 → fX h sz h1 → fI G.1 g_cl (fA h sz) s.heap h1 H locs → rk (mK nf fl fk fd fw fv lot day on) (mE ne ef rr rm day) = (-1, sE (mF rr rm e1 4 0 0) (mV rr e1) d) → d.1.length ≤ 4 ∧ d.2.2 ≤ 1000000000000000000 → ∀ ls : Array Slot, lv_has ls 25 [(0, .ref x), (1, .int (nI lot)), (2, .long (lN day)), (4, .long (lN on)), (6, .int (nI e1)), (7, .long (lN g)), (11, .long (lN li)), (13, .int (nI rate)), (14, .int (oN (ff (fp rr e1 1 g 0) 0 (rm e1)))), (15, .int (bI (hk fl fk fd fw lot 3 day on nf))), (16, .long (lN pay))] → W p l e { frames := 1, cells := 0, slots := 0, locals := 29 } s m ([.ref x, .int (nI lot), .long (lN day), .long (lN on)] : List Value).toArray below meth c H locs 0 0 (MQ below (cQi G h sz (fun r h' => r = (if (rk (mK nf fl fk fd fw fv lot day on) (mE ne ef rr rm day)).1 = -1 then 1 else 0) ∧ ∃ mf', h' x = some (40, 0, .inr (8, mo mf')) ∧ (∀ j, j < 14 ∨ 20 < j → mf' j = mf j) ∧ mSd G h' mf' (rk (mK nf fl fk fd fw fv lot day on) (mE ne ef rr rm day)).1 (rk (mK nf fl fk fd fw fv lot day on) (mE ne ef rr rm day)).2 ∧ fF (inR [40, 56, 57, 58]) h h')) ([.ref x, .int (nI lot), .long (lN day), .long (lN on)] : List Value).toArray s 0 0 (fA h sz)) (F0 m 478 ls []) := by
    intro e1 g li rate pay be bg bli bpay
    intro h1 mf1 d H locs g_x hFc hEd hSd hm1 hF hX hI hrk hb1 ls hl
    obtain ⟨sl, sr, sc, hSt, hq⟩ := hSd
    obtain ⟨L, fr, ce⟩ := d
    dsimp only at hb1 hSt hq
    obtain ⟨a15, a16, a17, ⟨v_14, v_15, v_16, v_17, v_18, v_19, v_20⟩, ⟨g_a15, g_a16, g_a17⟩⟩ := hSt
    obtain ⟨a7, a8, a9, a10, a11, ⟨v_7, v_8, v_9, v_10, v_11, v_12⟩, ⟨g_a7, g_a8, g_a9, g_a10, g_a11⟩, bnf, bfl, bfk, bfd, bfw, bfv0⟩ := id hFc
    have bfv : ∀ i, fv i ≤ 100000000 := fun i => Nat.le_trans (bfv0 i) (mostN_le _)
    have hz0 := hI.2.2.2.1
    rcases eR : ff (fp rr e1 4 0 0) 0 (rm e1) with _ | r
    · have hs : sE (mF rr rm e1 4 0 0) (mV rr e1) (L, fr, ce) = (L, fr, ce) := by unfold sE mF; rw [eR]
      have hSd9 : mSd G h1 mf1 (-1) (sE (mF rr rm e1 4 0 0) (mV rr e1) (L, fr, ce)) := by rw [hs]; exact ⟨sl, sr, sc, ⟨a15, a16, a17, ⟨v_14, v_15, v_16, v_17, v_18, v_19, v_20⟩, ⟨g_a15, g_a16, g_a17⟩⟩, hq⟩
      refine lv_aload_n hx hb d_MO_reckon_478 rfl (lv_at hl 0 rfl) ?_
      refine lv_iload hx hb d_MO_reckon_479 (lv_at hl 4 rfl) ?_
      refine lv_iconst (v := 4) hx hb d_MO_reckon_481 (by decide) ?_
      refine lv_lconst (v := 0) hx hb d_MO_reckon_482 (by decide) ?_
      refine lv_lconst (v := 0) hx hb d_MO_reckon_483 (by decide) ?_
      refine f_calli hI (f_runV C hI (c_MO_find l G h1 _ x e1 4 0 0 mf1 g_x ne ef rr rm hEd (by omega) (by omega) (by omega) (by omega)) gm_MO_find w_1032 p_MO_find w_1030 g_x rfl rfl rfl hl.1 rfl (Nat.le_of_ble_eq_true rfl) ⟨Nat.le_of_ble_eq_true rfl, Nat.le_of_ble_eq_true rfl⟩ d_MO_reckon_484 ⟨Nat.le_of_ble_eq_true rfl, Nat.le_of_ble_eq_true rfl⟩) (fun r_1 h9 H9 locs hp9 hX9 hz9 hI => ?_)
      obtain ⟨rfl, e9⟩ := hp9
      rw [e9] at hI
      clear hX9 e9
      rw [eR]
      refine lv_istore (lv' := [(22, .int (-1)), (0, .ref x), (1, .int (nI lot)), (2, .long (lN day)), (4, .long (lN on)), (6, .int (nI e1)), (7, .long (lN g)), (11, .long (lN li)), (13, .int (nI rate)), (14, .int (oN (ff (fp rr e1 1 g 0) 0 (rm e1)))), (15, .int (bI (hk fl fk fd fw lot 3 day on nf))), (16, .long (lN pay))]) hx hb d_MO_reckon_487 hl (by decide) rfl (fun ls hl => ?_)
      refine lv_iload hx hb d_MO_reckon_489 (lv_at hl 0 rfl) ?_
      refine lv_iconst (v := (-1)) hx hb d_MO_reckon_491 (by decide) ?_
      refine lv_icmp_eq (tgt := 543) hx hb d_MO_reckon_492 (by decide) (fun c_2 => ?_) (fun c_2 => absurd rfl c_2)
      refine lv_iconst (v := 1) hx hb d_MO_reckon_543 (by decide) ?_
      exact f_zret C hr rfl hI ⟨by rw [hrk]; rfl, mf1, g_x, hm1, by rw [hrk]; exact hSd9, hF⟩ hX (Nat.le_refl _) (Nat.le_refl _) d_MO_reckon_544
    · obtain ⟨-, hr2, hr3⟩ := ff_in eR
      have hkR := fp_k hr3
      have hok := brk e1 r be (by omega)
      have hv : 1 ≤ rr ((e1 * 40 + r) * 5 + 1) ∧ rr ((e1 * 40 + r) * 5 + 1) ≤ 1000 := hok.2.2.2.2.2.2.1 hkR
      have hrm := brm e1
      have hc9 := half_le (2 * ce + (rr ((e1 * 40 + r) * 5 + 1)) * 100000000000) ((rr ((e1 * 40 + r) * 5 + 1)) * 100000000000)
      refine lv_aload_n hx hb d_MO_reckon_478 rfl (lv_at hl 0 rfl) ?_
      refine lv_iload hx hb d_MO_reckon_479 (lv_at hl 4 rfl) ?_
      refine lv_iconst (v := 4) hx hb d_MO_reckon_481 (by decide) ?_
      refine lv_lconst (v := 0) hx hb d_MO_reckon_482 (by decide) ?_
      refine lv_lconst (v := 0) hx hb d_MO_reckon_483 (by decide) ?_
      refine f_calli hI (f_runV C hI (c_MO_find l G h1 _ x e1 4 0 0 mf1 g_x ne ef rr rm hEd (by omega) (by omega) (by omega) (by omega)) gm_MO_find w_1032 p_MO_find w_1030 g_x rfl rfl rfl hl.1 rfl (Nat.le_of_ble_eq_true rfl) ⟨Nat.le_of_ble_eq_true rfl, Nat.le_of_ble_eq_true rfl⟩ d_MO_reckon_484 ⟨Nat.le_of_ble_eq_true rfl, Nat.le_of_ble_eq_true rfl⟩) (fun r_3 h9 H9 locs hp9 hX9 hz9 hI => ?_)
      obtain ⟨rfl, e9⟩ := hp9
      rw [e9] at hI
      clear hX9 e9
      rw [eR]
      refine lv_istore (lv' := [(22, .int (nI r)), (0, .ref x), (1, .int (nI lot)), (2, .long (lN day)), (4, .long (lN on)), (6, .int (nI e1)), (7, .long (lN g)), (11, .long (lN li)), (13, .int (nI rate)), (14, .int (oN (ff (fp rr e1 1 g 0) 0 (rm e1)))), (15, .int (bI (hk fl fk fd fw lot 3 day on nf))), (16, .long (lN pay))]) hx hb d_MO_reckon_487 hl (by decide) rfl (fun ls hl => ?_)
      refine lv_iload hx hb d_MO_reckon_489 (lv_at hl 0 rfl) ?_
      refine lv_iconst (v := (-1)) hx hb d_MO_reckon_491 (by decide) ?_
      refine lv_icmp_eq (tgt := 543) hx hb d_MO_reckon_492 (by decide) (fun c_4 => absurd c_4 (n_m1 (by omega))) (fun c_4 => ?_)
      refine lv_aload_n hx hb d_MO_reckon_495 rfl (lv_at hl 1 rfl) ?_
      refine lv_iload hx hb d_MO_reckon_496 (lv_at hl 5 rfl) ?_
      refine lv_iload hx hb d_MO_reckon_498 (lv_at hl 0 rfl) ?_
      refine lv_iconst (v := 1) hx hb d_MO_reckon_500 (by decide) ?_
      refine f_calli hI (f_runV C hI (c_MO_value l G h1 _ x e1 r 1 mf1 g_x ne ef rr rm hEd (by omega) (by omega) (by omega)) gm_MO_value w_1036 p_MO_value w_1034 g_x rfl rfl rfl hl.1 rfl (Nat.le_of_ble_eq_true rfl) ⟨Nat.le_of_ble_eq_true rfl, Nat.le_of_ble_eq_true rfl⟩ d_MO_reckon_501 ⟨Nat.le_of_ble_eq_true rfl, Nat.le_of_ble_eq_true rfl⟩) (fun r_5 h9 H9 locs hp9 hX9 hz9 hI => ?_)
      obtain ⟨rfl, e9⟩ := hp9
      rw [e9] at hI
      clear hX9 e9
      refine lv_i2l (v := lN (rr ((e1 * 40 + r) * 5 + 1))) hx hb d_MO_reckon_504 (n_i2l (by have := brr ((e1 * 40 + r) * 5 + 1); omega)) ?_
      refine lv_ldc2 (v := 100000000000) hx hb hown (hT _ w_1042) d_MO_reckon_505 ?_
      refine lv_lmul hx hb d_MO_reckon_508 ?_
      refine f_asl (lN_mul (rr ((e1 * 40 + r) * 5 + 1)) 100000000000) ?_
      refine lv_lstore (lv' := [(23, .long (lN ((rr ((e1 * 40 + r) * 5 + 1)) * 100000000000))), (22, .int (nI r)), (0, .ref x), (1, .int (nI lot)), (2, .long (lN day)), (4, .long (lN on)), (6, .int (nI e1)), (7, .long (lN g)), (11, .long (lN li)), (13, .int (nI rate)), (14, .int (oN (ff (fp rr e1 1 g 0) 0 (rm e1)))), (15, .int (bI (hk fl fk fd fw lot 3 day on nf))), (16, .long (lN pay))]) hx hb d_MO_reckon_509 hl (by decide) rfl (fun ls hl => ?_)
      refine lv_aload_n hx hb d_MO_reckon_511 rfl (lv_at hl 2 rfl) ?_
      refine lv_ldc2 (v := 2) hx hb hown (hT _ w_1046) d_MO_reckon_512 ?_
      refine lv_aload_n hx hb d_MO_reckon_515 rfl (lv_at hl 2 rfl) ?_
      refine f_get (C := "DutyRulesModel") (T := T_MO) (N := 40) hx hb (fun w q => hT w (s_MO w q)) hown hK hI g_x rfl 20 (by decide) (hT _ w_829) (fun _ q => q) (mo_get (by decide) v_20) d_MO_reckon_516 ?_
      refine lv_lmul hx hb d_MO_reckon_519 ?_
      refine f_asl (lN_mul 2 ce) ?_
      refine lv_lload hx hb d_MO_reckon_520 (lv_at hl 0 rfl) ?_
      refine lv_ladd hx hb d_MO_reckon_522 ?_
      refine f_asl (lN_add (2 * ce) ((rr ((e1 * 40 + r) * 5 + 1)) * 100000000000)) ?_
      refine lv_ldc2 (v := 2) hx hb hown (hT _ w_1046) d_MO_reckon_523 ?_
      refine lv_lload hx hb d_MO_reckon_526 (lv_at hl 0 rfl) ?_
      refine lv_lmul hx hb d_MO_reckon_528 ?_
      refine f_asl (lN_mul 2 ((rr ((e1 * 40 + r) * 5 + 1)) * 100000000000)) ?_
      refine lv_ldiv hx hb d_MO_reckon_529 (l_ne0 (a := (2 * ((rr ((e1 * 40 + r) * 5 + 1)) * 100000000000))) (by have := brr ((e1 * 40 + r) * 5 + 1); omega) (by have := brr ((e1 * 40 + r) * 5 + 1); omega)) ?_
      refine f_asl (pk_lDiv (a := ((2 * ce) + ((rr ((e1 * 40 + r) * 5 + 1)) * 100000000000))) (b := (2 * ((rr ((e1 * 40 + r) * 5 + 1)) * 100000000000))) (by have := brr ((e1 * 40 + r) * 5 + 1); omega) (by have := brr ((e1 * 40 + r) * 5 + 1); omega) (by have := brr ((e1 * 40 + r) * 5 + 1); omega)) ?_
      refine lv_lload hx hb d_MO_reckon_530 (lv_at hl 0 rfl) ?_
      refine lv_lmul hx hb d_MO_reckon_532 ?_
      refine f_asl (lN_mul (((2 * ce) + ((rr ((e1 * 40 + r) * 5 + 1)) * 100000000000)) / (2 * ((rr ((e1 * 40 + r) * 5 + 1)) * 100000000000))) ((rr ((e1 * 40 + r) * 5 + 1)) * 100000000000)) ?_
      refine f_put (C := "DutyRulesModel") (T := T_MO) (N := 40) (fs' := mo (va_up mf1 20 (.long (lN ((((2 * ce) + ((rr ((e1 * 40 + r) * 5 + 1)) * 100000000000)) / (2 * ((rr ((e1 * 40 + r) * 5 + 1)) * 100000000000))) * ((rr ((e1 * 40 + r) * 5 + 1)) * 100000000000)))))) (v := .long (lN ((((2 * ce) + ((rr ((e1 * 40 + r) * 5 + 1)) * 100000000000)) / (2 * ((rr ((e1 * 40 + r) * 5 + 1)) * 100000000000))) * ((rr ((e1 * 40 + r) * 5 + 1)) * 100000000000)))) hx hb (fun w q => hT w (s_MO w q)) t_MO k_MO n_MO hown hK hI g_x (by decide) rfl 20 (by decide) (hT _ w_829) (fun _ q => q) rfl rfl rfl (by rw [mo_len]; decide) (mo_set _) d_MO_reckon_533 (fun H locs hI => ?_)
      generalize emf_6 : va_up mf1 20 (.long (lN ((((2 * ce) + ((rr ((e1 * 40 + r) * 5 + 1)) * 100000000000)) / (2 * ((rr ((e1 * 40 + r) * 5 + 1)) * 100000000000))) * ((rr ((e1 * 40 + r) * 5 + 1)) * 100000000000)))) = mf_6 at hI
      have v_11 : mf_6 11 = .ref a11 := by rw [← emf_6, va_up_ne _ _ (by decide)]; exact v_11
      have v_14 : mf_6 14 = .int (-1) := by rw [← emf_6, va_up_ne _ _ (by decide)]; exact v_14
      have v_15 : mf_6 15 = .ref a15 := by rw [← emf_6, va_up_ne _ _ (by decide)]; exact v_15
      have v_16 : mf_6 16 = .ref a16 := by rw [← emf_6, va_up_ne _ _ (by decide)]; exact v_16
      have v_17 : mf_6 17 = .ref a17 := by rw [← emf_6, va_up_ne _ _ (by decide)]; exact v_17
      have v_18 : mf_6 18 = .int (nI L.length) := by rw [← emf_6, va_up_ne _ _ (by decide)]; exact v_18
      have v_19 : mf_6 19 = .long (lN fr) := by rw [← emf_6, va_up_ne _ _ (by decide)]; exact v_19
      have v_20 : mf_6 20 = .long (lN ((((2 * ce) + ((rr ((e1 * 40 + r) * 5 + 1)) * 100000000000)) / (2 * ((rr ((e1 * 40 + r) * 5 + 1)) * 100000000000))) * ((rr ((e1 * 40 + r) * 5 + 1)) * 100000000000))) := by rw [← emf_6, va_up_self]
      generalize eh_7 : fU h1 x (40, 0, .inr (8, mo mf_6)) = h_7 at hI
      have hX := hX.set (e := .inr (8, mo mf_6)) g_x (by decide); rw [eh_7] at hX
      have hF := hF.set (e := .inr (8, mo mf_6)) g_x (by decide); rw [eh_7] at hF
      have g_a15 : h_7 a15 = some (56, 0, .inl ((G.2.1 0), 5, .inl (fun i => nI (sl i)))) := by rw [← eh_7]; exact fU_keep g_a15 (f_neR g_a15 g_x (by decide))
      have g_a16 : h_7 a16 = some (57, 0, .inl ((G.2.1 0), 5, .inl (fun i => nI (sr i)))) := by rw [← eh_7]; exact fU_keep g_a16 (f_neR g_a16 g_x (by decide))
      have g_a17 : h_7 a17 = some (58, 0, .inl ((G.2.1 1), 5, .inr (.inl (fun i => lN (sc i))))) := by rw [← eh_7]; exact fU_keep g_a17 (f_neR g_a17 g_x (by decide))
      have g_a11 : h_7 a11 = some (52, 0, .inl ((G.2.1 1), 300, .inr (.inl (fun i => lN (fv i))))) := by rw [← eh_7]; exact fU_keep g_a11 (f_neR g_a11 g_x (by decide))
      have hW9 : fF (inR [40]) h1 h_7 := by rw [← eh_7]; exact fF.rf.set g_x (by decide)
      have g_x : h_7 x = some (40, 0, .inr (8, mo mf_6)) := by rw [← eh_7]; exact fU_self _ _ _
      have hFc := mFc.keep (mf' := mf_6) hFc (fun j _ _ => by rw [← emf_6]; exact va_up_ne _ _ (by omega)) hW9 (by decide)
      have hEd := mEd.keep (mf' := mf_6) hEd (fun j _ _ => by rw [← emf_6]; exact va_up_ne _ _ (by omega)) hW9 (by decide)
      have hm1 : ∀ j, j < 14 ∨ 20 < j → mf_6 j = mf j := fun j hj => by rw [← emf_6, va_up_ne _ _ (by omega)]; exact hm1 j hj
      refine lv_aload_n hx hb d_MO_reckon_536 rfl (lv_at hl 2 rfl) ?_
      refine lv_iconst (v := 4) hx hb d_MO_reckon_537 (by decide) ?_
      refine lv_iload hx hb d_MO_reckon_538 (lv_at hl 1 rfl) ?_
      have hz8 := hI.2.2.2.1
      refine f_callv hI (f_runV C hI (c_MO_step l G h_7 _ x 4 r mf_6 g_x _ _ sl sr sc _ _ ⟨a15, a16, a17, ⟨v_14, v_15, v_16, v_17, v_18, v_19, v_20⟩, ⟨g_a15, g_a16, g_a17⟩⟩ (by omega) (by omega)) gm_MO_step w_1040 p_MO_step w_1038 g_x rfl rfl rfl hl.1 rfl (Nat.le_of_ble_eq_true rfl) ⟨Nat.le_of_ble_eq_true rfl, Nat.le_of_ble_eq_true rfl⟩ d_MO_reckon_540 ⟨Nat.le_of_ble_eq_true rfl, Nat.le_of_ble_eq_true rfl⟩) (fun h9 H9 locs hp9 hX9 hz9 hI => ?_)
      obtain ⟨mf_9, g_x, hm9, hSt, hF9⟩ := hp9
      have hFc := hFc.keep (fun j _ _ => hm9 j (by omega)) hF9 (by decide)
      have hEd := hEd.keep (fun j _ _ => hm9 j (by omega)) hF9 (by decide)
      have hm1 : ∀ j, j < 14 ∨ 20 < j → mf_9 j = mf j := fun j hj => (hm9 j (by omega)).trans (hm1 j hj)
      have hF := hF.tr hF9
      have hX := fX.tr (by omega) hX hX9
      have hs : sE (mF rr rm e1 4 0 0) (mV rr e1) (L, fr, ce) = (L ++ [(4, r, ((((2 * ce) + ((rr ((e1 * 40 + r) * 5 + 1)) * 100000000000)) / (2 * ((rr ((e1 * 40 + r) * 5 + 1)) * 100000000000))) * ((rr ((e1 * 40 + r) * 5 + 1)) * 100000000000)) / CT)], fr, ((((2 * ce) + ((rr ((e1 * 40 + r) * 5 + 1)) * 100000000000)) / (2 * ((rr ((e1 * 40 + r) * 5 + 1)) * 100000000000))) * ((rr ((e1 * 40 + r) * 5 + 1)) * 100000000000))) := by unfold sE mF; rw [eR]; rfl
      have hSd9 : mSd G _ _ (-1) (L ++ [(4, r, ((((2 * ce) + ((rr ((e1 * 40 + r) * 5 + 1)) * 100000000000)) / (2 * ((rr ((e1 * 40 + r) * 5 + 1)) * 100000000000))) * ((rr ((e1 * 40 + r) * 5 + 1)) * 100000000000)) / CT)], fr, ((((2 * ce) + ((rr ((e1 * 40 + r) * 5 + 1)) * 100000000000)) / (2 * ((rr ((e1 * 40 + r) * 5 + 1)) * 100000000000))) * ((rr ((e1 * 40 + r) * 5 + 1)) * 100000000000))) := ⟨va_up sl L.length 4, va_up sr L.length r, va_up sc L.length (((((2 * ce) + ((rr ((e1 * 40 + r) * 5 + 1)) * 100000000000)) / (2 * ((rr ((e1 * 40 + r) * 5 + 1)) * 100000000000))) * ((rr ((e1 * 40 + r) * 5 + 1)) * 100000000000)) / CT), (by show mSt G _ _ _ (L ++ [_]).length _ _ _ _ _; rw [List.length_append]; exact hSt), mSd.add hq 4 r _⟩
      rw [← hs] at hSd9
      refine lv_iconst (v := 1) hx hb d_MO_reckon_543 (by decide) ?_
      exact f_zret C hr rfl hI ⟨by rw [hrk]; rfl, mf_9, g_x, hm1, by rw [hrk]; exact hSd9, hF⟩ hX (Nat.le_refl _) (Nat.le_refl _) d_MO_reckon_544
  sorry
