theorem gm_MO_reckon : gM y_MO_reckon b_MO_reckon 25 (some .boolean) 3 := ⟨w_1021, w_10, ⟨by decide, by decide⟩, by decide +kernel⟩
set_option maxHeartbeats 4000000 in
set_option maxRecDepth 100000 in
/-- MO_reckon  -/
theorem x_MO_reckon (l : Launch) (G : gG) (h : fH) (sz : Nat) (x lot day on : Nat) (mf : Nat → Value) (g_x : h x = some (40, 0, .inr (8, mo mf))) (nf : Nat) (fl fk fd fw fv : Nat → Nat) (hFc : mFc G h mf nf fl fk fd fw fv) (ne : Nat) (ef rr rm : Nat → Nat) (hEd : mEd G h mf ne ef rr rm) (rs : Int32) (ns : Nat) (sl sr sc : Nat → Nat) (fr ce : Nat) (hSt : mSt G h mf rs ns sl sr sc fr ce) (blot : lot < 30) (bday : day ≤ 100000) (bon : on ≤ 100000) : ∀ (p : Program) (e : Env) (s : State) (m : MethodId) (below : List Frame) (meth : Method) (c : Code), gC G p s m ([.ref x, .int (nI lot), .long (lN day), .long (lN on)] : List Value).toArray meth c (fA h sz) b_MO_reckon 25 y_MO_reckon.cls y_MO_reckon.name → meth.sig.returnType = some .boolean → s.heap.size = sz → ∀ (e1 g li rate pay : Nat), e1 < 11 → g ≤ 9 → li ≤ 1000000 → pay ≤ 1000000 → ∀ (h1 : fH) (mf1 : Nat → Value) (d : dst) (H : Heap) (locs : List Loc), h1 x = some (40, 0, .inr (8, mo mf1)) → mFc G h1 mf1 nf fl fk fd fw fv → mEd G h1 mf1 ne ef rr rm → mSd G h1 mf1 (-1) d → (∀ j, j < 14 ∨ 20 < j → mf1 j = mf j) → fF (inR [40, 56, 57, 58]) h h1 → fX h sz h1 → fI G.1 g_cl (fA h sz) s.heap h1 H locs → rk (mK nf fl fk fd fw fv lot day on) (mE ne ef rr rm day) = (-1, sE (mF rr rm e1 4 0 0) (mV rr e1) (sD (mF rr rm e1 1 g 0) ((mK nf fl fk fd fw fv lot day on) 3) (mV rr e1) (sC li pay ((mK nf fl fk fd fw fv lot day on) 5) (mF rr rm e1 3 g 0) (mV rr e1) (sB li pay ((mK nf fl fk fd fw fv lot day on) 4) (mF rr rm e1 2 g 0) (mV rr e1) d)))) → d.1.length ≤ 1 ∧ d.2.2 = li * pay * 1000000 ∧ d.2.1 = 0 ∧ ¬ ((mF rr rm e1 1 g 0).isSome = true ∧ ((mK nf fl fk fd fw fv lot day on) 3).isNone = true) → ∀ ls : Array Slot, lv_has ls 25 [(0, .ref x), (1, .int (nI lot)), (2, .long (lN day)), (4, .long (lN on)), (6, .int (nI e1)), (7, .long (lN g)), (11, .long (lN li)), (13, .int (nI rate)), (14, .int (oN (ff (fp rr e1 1 g 0) 0 (rm e1)))), (15, .int (bI (hk fl fk fd fw lot 3 day on nf))), (16, .long (lN pay))] → W p l e { frames := 1, cells := 0, slots := 0, locals := 29 } s m ([.ref x, .int (nI lot), .long (lN day), .long (lN on)] : List Value).toArray below meth c H locs 0 0 (MQ below (cQi G h sz (fun r h' => r = (if (rk (mK nf fl fk fd fw fv lot day on) (mE ne ef rr rm day)).1 = -1 then 1 else 0) ∧ ∃ mf', h' x = some (40, 0, .inr (8, mo mf')) ∧ (∀ j, j < 14 ∨ 20 < j → mf' j = mf j) ∧ mSd G h' mf' (rk (mK nf fl fk fd fw fv lot day on) (mE ne ef rr rm day)).1 (rk (mK nf fl fk fd fw fv lot day on) (mE ne ef rr rm day)).2 ∧ fF (inR [40, 56, 57, 58]) h h')) ([.ref x, .int (nI lot), .long (lN day), .long (lN on)] : List Value).toArray s 0 0 (fA h sz)) (F0 m 230 ls []) := by
  intro p e s m below meth c C hr hsz
  obtain ⟨hx, hb, hml, hown, hnm, hlk, hT, hG, hZ⟩ := id C
  have hK := hG.1
  obtain ⟨_, _, _, _, _, bne, brm, bef, brr, brk⟩ := id hEd
  obtain ⟨_, _, _, _, _, _, _, bnf, bfl, bfk, bfd, bfw, bfv0⟩ := id hFc
  have bfv : ∀ i, fv i ≤ 100000000 := fun i => Nat.le_trans (bfv0 i) (mostN_le _)
  have bl31 : lot < 2 ^ 31 := by omega
  have bd31 : day < 2 ^ 31 := by omega
  have bo31 : on < 2 ^ 31 := by omega
  have JE : ∀ (e1 g li rate pay : Nat), e1 < 11 → g ≤ 9 → li ≤ 1000000 → pay ≤ 1000000 → ∀ (h1 : fH) (mf1 : Nat → Value) (d : dst) (H : Heap) (locs : List Loc), h1 x = some (40, 0, .inr (8, mo mf1)) → mFc G h1 mf1 nf fl fk fd fw fv → mEd G h1 mf1 ne ef rr rm → mSd G h1 mf1 (-1) d → (∀ j, j < 14 ∨ 20 < j → mf1 j = mf j) → fF (inR [40, 56, 57, 58]) h h1 → fX h sz h1 → fI G.1 g_cl (fA h sz) s.heap h1 H locs → rk (mK nf fl fk fd fw fv lot day on) (mE ne ef rr rm day) = (-1, sE (mF rr rm e1 4 0 0) (mV rr e1) d) → d.1.length ≤ 4 ∧ d.2.2 ≤ 1000000000000000000 → ∀ ls : Array Slot, lv_has ls 25 [(0, .ref x), (1, .int (nI lot)), (2, .long (lN day)), (4, .long (lN on)), (6, .int (nI e1)), (7, .long (lN g)), (11, .long (lN li)), (13, .int (nI rate)), (14, .int (oN (ff (fp rr e1 1 g 0) 0 (rm e1)))), (15, .int (bI (hk fl fk fd fw lot 3 day on nf))), (16, .long (lN pay))] → W p l e { frames := 1, cells := 0, slots := 0, locals := 29 } s m ([.ref x, .int (nI lot), .long (lN day), .long (lN on)] : List Value).toArray below meth c H locs 0 0 (MQ below (cQi G h sz (fun r h' => r = (if (rk (mK nf fl fk fd fw fv lot day on) (mE ne ef rr rm day)).1 = -1 then 1 else 0) ∧ ∃ mf', h' x = some (40, 0, .inr (8, mo mf')) ∧ (∀ j, j < 14 ∨ 20 < j → mf' j = mf j) ∧ mSd G h' mf' (rk (mK nf fl fk fd fw fv lot day on) (mE ne ef rr rm day)).1 (rk (mK nf fl fk fd fw fv lot day on) (mE ne ef rr rm day)).2 ∧ fF (inR [40, 56, 57, 58]) h h')) ([.ref x, .int (nI lot), .long (lN day), .long (lN on)] : List Value).toArray s 0 0 (fA h sz)) (F0 m 478 ls []) := by
    intro e1 g li rate pay be bg bli bpay
    intro h1 mf1 d H locs g_x hFc hEd hSd hm1 hF hX hI hrk hb1 ls hl
    obtain ⟨sl, sr, sc, hSt, hq⟩ := hSd
    obtain ⟨L, fr, ce⟩ := d
    dsimp only at hb1 hSt hq
    obtain ⟨a15, a16, a17, ⟨v_14, v_15, v_16, v_17, v_18, v_19, v_20⟩, ⟨g_a15, g_a16, g_a17⟩⟩ := hSt
    obtain ⟨a7, a8, a9, a10, a11, ⟨v_7, v_8, v_9, v_10, v_11, v_12⟩, ⟨g_a7, g_a8, g_a9, g_a10, g_a11⟩, bnf, bfl, bfk, bfd, bfw, bfv0⟩ := id hFc
    have bfv : ∀ i, fv i ≤ 100000000 := fun i => Nat.le_trans (bfv0 i) (mostN_le _)
    have hz0 := hI.2.2.2.1
    rcases eR : ff (fp rr e1 4 0 0) 0 (rm e1) with _ | r
    · have hs : sE (mF rr rm e1 4 0 0) (mV rr e1) (L, fr, ce) = (L, fr, ce) := by unfold sE mF; rw [eR]
      have hSd9 : mSd G h1 mf1 (-1) (sE (mF rr rm e1 4 0 0) (mV rr e1) (L, fr, ce)) := by rw [hs]; exact ⟨sl, sr, sc, ⟨a15, a16, a17, ⟨v_14, v_15, v_16, v_17, v_18, v_19, v_20⟩, ⟨g_a15, g_a16, g_a17⟩⟩, hq⟩
      refine lv_aload_n hx hb d_MO_reckon_478 rfl (lv_at hl 0 rfl) ?_
      refine lv_iload hx hb d_MO_reckon_479 (lv_at hl 4 rfl) ?_
      refine lv_iconst (v := 4) hx hb d_MO_reckon_481 (by decide) ?_
      refine lv_lconst (v := 0) hx hb d_MO_reckon_482 (by decide) ?_
      refine lv_lconst (v := 0) hx hb d_MO_reckon_483 (by decide) ?_
      refine f_calli hI (f_runV C hI (c_MO_find l G h1 _ x e1 4 0 0 mf1 g_x ne ef rr rm hEd (by omega) (by omega) (by omega) (by omega)) gm_MO_find w_1032 p_MO_find w_1030 g_x rfl rfl rfl hl.1 rfl (Nat.le_of_ble_eq_true rfl) ⟨Nat.le_of_ble_eq_true rfl, Nat.le_of_ble_eq_true rfl⟩ d_MO_reckon_484 ⟨Nat.le_of_ble_eq_true rfl, Nat.le_of_ble_eq_true rfl⟩) (fun r_1 h8 H9 locs hp9 hX9 hz9 hI => ?_)
      obtain ⟨rfl, e9⟩ := hp9
      rw [e9] at hI
      clear hX9 e9
      rw [eR]
      refine lv_istore (lv' := [(22, .int (-1)), (0, .ref x), (1, .int (nI lot)), (2, .long (lN day)), (4, .long (lN on)), (6, .int (nI e1)), (7, .long (lN g)), (11, .long (lN li)), (13, .int (nI rate)), (14, .int (oN (ff (fp rr e1 1 g 0) 0 (rm e1)))), (15, .int (bI (hk fl fk fd fw lot 3 day on nf))), (16, .long (lN pay))]) hx hb d_MO_reckon_487 hl (by decide) rfl (fun ls hl => ?_)
      refine lv_iload hx hb d_MO_reckon_489 (lv_at hl 0 rfl) ?_
      refine lv_iconst (v := (-1)) hx hb d_MO_reckon_491 (by decide) ?_
      refine lv_icmp_eq (tgt := 543) hx hb d_MO_reckon_492 (by decide) (fun c_2 => ?_) (fun c_2 => absurd rfl c_2)
      refine lv_iconst (v := 1) hx hb d_MO_reckon_543 (by decide) ?_
      exact f_zret C hr rfl hI ⟨by rw [hrk]; rfl, mf1, g_x, hm1, by rw [hrk]; exact hSd9, hF⟩ hX (Nat.le_refl _) (Nat.le_refl _) d_MO_reckon_544
    · obtain ⟨-, hr2, hr3⟩ := ff_in eR
      have hkR := fp_k hr3
      have hok := brk e1 r be (by omega)
      have hv : 1 ≤ rr ((e1 * 40 + r) * 5 + 1) ∧ rr ((e1 * 40 + r) * 5 + 1) ≤ 1000 := hok.2.2.2.2.2.2.1 hkR
      have hrm := brm e1
      have hc9 := half_le (2 * ce + (rr ((e1 * 40 + r) * 5 + 1)) * 100000000000) ((rr ((e1 * 40 + r) * 5 + 1)) * 100000000000)
      refine lv_aload_n hx hb d_MO_reckon_478 rfl (lv_at hl 0 rfl) ?_
      refine lv_iload hx hb d_MO_reckon_479 (lv_at hl 4 rfl) ?_
      refine lv_iconst (v := 4) hx hb d_MO_reckon_481 (by decide) ?_
      refine lv_lconst (v := 0) hx hb d_MO_reckon_482 (by decide) ?_
      refine lv_lconst (v := 0) hx hb d_MO_reckon_483 (by decide) ?_
      refine f_calli hI (f_runV C hI (c_MO_find l G h1 _ x e1 4 0 0 mf1 g_x ne ef rr rm hEd (by omega) (by omega) (by omega) (by omega)) gm_MO_find w_1032 p_MO_find w_1030 g_x rfl rfl rfl hl.1 rfl (Nat.le_of_ble_eq_true rfl) ⟨Nat.le_of_ble_eq_true rfl, Nat.le_of_ble_eq_true rfl⟩ d_MO_reckon_484 ⟨Nat.le_of_ble_eq_true rfl, Nat.le_of_ble_eq_true rfl⟩) (fun r_3 h8 H9 locs hp9 hX9 hz9 hI => ?_)
      obtain ⟨rfl, e9⟩ := hp9
      rw [e9] at hI
      clear hX9 e9
      rw [eR]
      refine lv_istore (lv' := [(22, .int (nI r)), (0, .ref x), (1, .int (nI lot)), (2, .long (lN day)), (4, .long (lN on)), (6, .int (nI e1)), (7, .long (lN g)), (11, .long (lN li)), (13, .int (nI rate)), (14, .int (oN (ff (fp rr e1 1 g 0) 0 (rm e1)))), (15, .int (bI (hk fl fk fd fw lot 3 day on nf))), (16, .long (lN pay))]) hx hb d_MO_reckon_487 hl (by decide) rfl (fun ls hl => ?_)
      refine lv_iload hx hb d_MO_reckon_489 (lv_at hl 0 rfl) ?_
      refine lv_iconst (v := (-1)) hx hb d_MO_reckon_491 (by decide) ?_
      refine lv_icmp_eq (tgt := 543) hx hb d_MO_reckon_492 (by decide) (fun c_4 => absurd c_4 (n_m1 (by omega))) (fun c_4 => ?_)
      refine lv_aload_n hx hb d_MO_reckon_495 rfl (lv_at hl 1 rfl) ?_
      refine lv_iload hx hb d_MO_reckon_496 (lv_at hl 5 rfl) ?_
      refine lv_iload hx hb d_MO_reckon_498 (lv_at hl 0 rfl) ?_
      refine lv_iconst (v := 1) hx hb d_MO_reckon_500 (by decide) ?_
      refine f_calli hI (f_runV C hI (c_MO_value l G h1 _ x e1 r 1 mf1 g_x ne ef rr rm hEd (by omega) (by omega) (by omega)) gm_MO_value w_1036 p_MO_value w_1034 g_x rfl rfl rfl hl.1 rfl (Nat.le_of_ble_eq_true rfl) ⟨Nat.le_of_ble_eq_true rfl, Nat.le_of_ble_eq_true rfl⟩ d_MO_reckon_501 ⟨Nat.le_of_ble_eq_true rfl, Nat.le_of_ble_eq_true rfl⟩) (fun r_5 h8 H9 locs hp9 hX9 hz9 hI => ?_)
      obtain ⟨rfl, e9⟩ := hp9
      rw [e9] at hI
      clear hX9 e9
      refine lv_i2l (v := lN (rr ((e1 * 40 + r) * 5 + 1))) hx hb d_MO_reckon_504 (n_i2l (by have := brr ((e1 * 40 + r) * 5 + 1); omega)) ?_
      refine lv_ldc2 (v := 100000000000) hx hb hown (hT _ w_1042) d_MO_reckon_505 ?_
      refine lv_lmul hx hb d_MO_reckon_508 ?_
      refine f_asl (lN_mul (rr ((e1 * 40 + r) * 5 + 1)) 100000000000) ?_
      refine lv_lstore (lv' := [(23, .long (lN ((rr ((e1 * 40 + r) * 5 + 1)) * 100000000000))), (22, .int (nI r)), (0, .ref x), (1, .int (nI lot)), (2, .long (lN day)), (4, .long (lN on)), (6, .int (nI e1)), (7, .long (lN g)), (11, .long (lN li)), (13, .int (nI rate)), (14, .int (oN (ff (fp rr e1 1 g 0) 0 (rm e1)))), (15, .int (bI (hk fl fk fd fw lot 3 day on nf))), (16, .long (lN pay))]) hx hb d_MO_reckon_509 hl (by decide) rfl (fun ls hl => ?_)
      refine lv_aload_n hx hb d_MO_reckon_511 rfl (lv_at hl 2 rfl) ?_
      refine lv_ldc2 (v := 2) hx hb hown (hT _ w_1046) d_MO_reckon_512 ?_
      refine lv_aload_n hx hb d_MO_reckon_515 rfl (lv_at hl 2 rfl) ?_
      refine f_get (C := "DutyRulesModel") (T := T_MO) (N := 40) hx hb (fun w q => hT w (s_MO w q)) hown hK hI g_x rfl 20 (by decide) (hT _ w_829) (fun _ q => q) (mo_get (by decide) v_20) d_MO_reckon_516 ?_
      refine lv_lmul hx hb d_MO_reckon_519 ?_
      refine f_asl (lN_mul 2 ce) ?_
      refine lv_lload hx hb d_MO_reckon_520 (lv_at hl 0 rfl) ?_
      refine lv_ladd hx hb d_MO_reckon_522 ?_
      refine f_asl (lN_add (2 * ce) ((rr ((e1 * 40 + r) * 5 + 1)) * 100000000000)) ?_
      refine lv_ldc2 (v := 2) hx hb hown (hT _ w_1046) d_MO_reckon_523 ?_
      refine lv_lload hx hb d_MO_reckon_526 (lv_at hl 0 rfl) ?_
      refine lv_lmul hx hb d_MO_reckon_528 ?_
      refine f_asl (lN_mul 2 ((rr ((e1 * 40 + r) * 5 + 1)) * 100000000000)) ?_
      refine lv_ldiv hx hb d_MO_reckon_529 (l_ne0 (a := (2 * ((rr ((e1 * 40 + r) * 5 + 1)) * 100000000000))) (by have := brr ((e1 * 40 + r) * 5 + 1); omega) (by have := brr ((e1 * 40 + r) * 5 + 1); omega)) ?_
      refine f_asl (pk_lDiv (a := ((2 * ce) + ((rr ((e1 * 40 + r) * 5 + 1)) * 100000000000))) (b := (2 * ((rr ((e1 * 40 + r) * 5 + 1)) * 100000000000))) (by have := brr ((e1 * 40 + r) * 5 + 1); omega) (by have := brr ((e1 * 40 + r) * 5 + 1); omega) (by have := brr ((e1 * 40 + r) * 5 + 1); omega)) ?_
      refine lv_lload hx hb d_MO_reckon_530 (lv_at hl 0 rfl) ?_
      refine lv_lmul hx hb d_MO_reckon_532 ?_
      refine f_asl (lN_mul (((2 * ce) + ((rr ((e1 * 40 + r) * 5 + 1)) * 100000000000)) / (2 * ((rr ((e1 * 40 + r) * 5 + 1)) * 100000000000))) ((rr ((e1 * 40 + r) * 5 + 1)) * 100000000000)) ?_
      refine f_put (C := "DutyRulesModel") (T := T_MO) (N := 40) (fs' := mo (va_up mf1 20 (.long (lN ((((2 * ce) + ((rr ((e1 * 40 + r) * 5 + 1)) * 100000000000)) / (2 * ((rr ((e1 * 40 + r) * 5 + 1)) * 100000000000))) * ((rr ((e1 * 40 + r) * 5 + 1)) * 100000000000)))))) (v := .long (lN ((((2 * ce) + ((rr ((e1 * 40 + r) * 5 + 1)) * 100000000000)) / (2 * ((rr ((e1 * 40 + r) * 5 + 1)) * 100000000000))) * ((rr ((e1 * 40 + r) * 5 + 1)) * 100000000000)))) hx hb (fun w q => hT w (s_MO w q)) t_MO k_MO n_MO hown hK hI g_x (by decide) rfl 20 (by decide) (hT _ w_829) (fun _ q => q) rfl rfl rfl (by rw [mo_len]; decide) (mo_set _) d_MO_reckon_533 (fun H locs hI => ?_)
      generalize emf_6 : va_up mf1 20 (.long (lN ((((2 * ce) + ((rr ((e1 * 40 + r) * 5 + 1)) * 100000000000)) / (2 * ((rr ((e1 * 40 + r) * 5 + 1)) * 100000000000))) * ((rr ((e1 * 40 + r) * 5 + 1)) * 100000000000)))) = mf_6 at hI
      have v_11 : mf_6 11 = .ref a11 := (congrFun emf_6 11).symm.trans ((va_up_ne _ _ (by decide)).trans v_11)
      have v_14 : mf_6 14 = .int (-1) := (congrFun emf_6 14).symm.trans ((va_up_ne _ _ (by decide)).trans v_14)
      have v_15 : mf_6 15 = .ref a15 := (congrFun emf_6 15).symm.trans ((va_up_ne _ _ (by decide)).trans v_15)
      have v_16 : mf_6 16 = .ref a16 := (congrFun emf_6 16).symm.trans ((va_up_ne _ _ (by decide)).trans v_16)
      have v_17 : mf_6 17 = .ref a17 := (congrFun emf_6 17).symm.trans ((va_up_ne _ _ (by decide)).trans v_17)
      have v_18 : mf_6 18 = .int (nI L.length) := (congrFun emf_6 18).symm.trans ((va_up_ne _ _ (by decide)).trans v_18)
      have v_19 : mf_6 19 = .long (lN fr) := (congrFun emf_6 19).symm.trans ((va_up_ne _ _ (by decide)).trans v_19)
      have v_20 : mf_6 20 = .long (lN ((((2 * ce) + ((rr ((e1 * 40 + r) * 5 + 1)) * 100000000000)) / (2 * ((rr ((e1 * 40 + r) * 5 + 1)) * 100000000000))) * ((rr ((e1 * 40 + r) * 5 + 1)) * 100000000000))) := (congrFun emf_6 20).symm.trans (va_up_self _ _ _)
      generalize eh_7 : fU h1 x (40, 0, .inr (8, mo mf_6)) = h_7 at hI
      have hX := hX.set (e := .inr (8, mo mf_6)) g_x (by decide); rw [eh_7] at hX
      have hF := hF.set (e := .inr (8, mo mf_6)) g_x (by decide); rw [eh_7] at hF
      have g_a15 : h_7 a15 = some (56, 0, .inl ((G.2.1 0), 5, .inl (fun i => nI (sl i)))) := (congrFun eh_7 a15).symm.trans (fU_keep g_a15 (f_neR g_a15 g_x (by decide)))
      have g_a16 : h_7 a16 = some (57, 0, .inl ((G.2.1 0), 5, .inl (fun i => nI (sr i)))) := (congrFun eh_7 a16).symm.trans (fU_keep g_a16 (f_neR g_a16 g_x (by decide)))
      have g_a17 : h_7 a17 = some (58, 0, .inl ((G.2.1 1), 5, .inr (.inl (fun i => lN (sc i))))) := (congrFun eh_7 a17).symm.trans (fU_keep g_a17 (f_neR g_a17 g_x (by decide)))
      have g_a11 : h_7 a11 = some (52, 0, .inl ((G.2.1 1), 300, .inr (.inl (fun i => lN (fv i))))) := (congrFun eh_7 a11).symm.trans (fU_keep g_a11 (f_neR g_a11 g_x (by decide)))
      have hW9 : fF (inR [40]) h1 h_7 := by rw [← eh_7]; exact fF.rf.set g_x (by decide)
      have g_x : h_7 x = some (40, 0, .inr (8, mo mf_6)) := (congrFun eh_7 x).symm.trans (fU_self _ _ _)
      have hFc := mFc.keep (mf' := mf_6) hFc (fun j h1 h2 => (congrFun emf_6 j).symm.trans (va_up_ne _ _ (ne_out h1 h2 (by decide)))) hW9 (by decide)
      have hEd := mEd.keep (mf' := mf_6) hEd (fun j h1 h2 => (congrFun emf_6 j).symm.trans (va_up_ne _ _ (ne_out h1 h2 (by decide)))) hW9 (by decide)
      have hm1 : ∀ j, j < 14 ∨ 20 < j → mf_6 j = mf j := fun j hj => (congrFun emf_6 j).symm.trans ((va_up_ne _ _ (ne_rng hj (by decide))).trans (hm1 j hj))
      refine lv_aload_n hx hb d_MO_reckon_536 rfl (lv_at hl 2 rfl) ?_
      refine lv_iconst (v := 4) hx hb d_MO_reckon_537 (by decide) ?_
      refine lv_iload hx hb d_MO_reckon_538 (lv_at hl 1 rfl) ?_
      have hz8 := hI.2.2.2.1
      refine f_callv hI (f_runV C hI (c_MO_step l G h_7 _ x 4 r mf_6 g_x _ (L.length) sl sr sc _ _ ⟨a15, a16, a17, ⟨v_14, v_15, v_16, v_17, v_18, v_19, v_20⟩, ⟨g_a15, g_a16, g_a17⟩⟩ (by omega) (by omega)) gm_MO_step w_1040 p_MO_step w_1038 g_x rfl rfl rfl hl.1 rfl (Nat.le_of_ble_eq_true rfl) ⟨Nat.le_of_ble_eq_true rfl, Nat.le_of_ble_eq_true rfl⟩ d_MO_reckon_540 ⟨Nat.le_of_ble_eq_true rfl, Nat.le_of_ble_eq_true rfl⟩) (fun h9 H9 locs hp9 hX9 hz9 hI => ?_)
      obtain ⟨mf_9, g_x, hm9, hSt, hF9⟩ := hp9
      have hFc := hFc.keep (fun j h1 h2 => hm9 j (ne_out h1 h2 (by decide))) hF9 (by decide)
      have hEd := hEd.keep (fun j h1 h2 => hm9 j (ne_out h1 h2 (by decide))) hF9 (by decide)
      have hm1 : ∀ j, j < 14 ∨ 20 < j → mf_9 j = mf j := fun j hj => (hm9 j (ne_rng hj (by decide))).trans (hm1 j hj)
      have hF := hF.tr hF9
      have hX := fX.tr (by omega) hX hX9
      have hs : sE (mF rr rm e1 4 0 0) (mV rr e1) (L, fr, ce) = (L ++ [(4, r, ((((2 * ce) + ((rr ((e1 * 40 + r) * 5 + 1)) * 100000000000)) / (2 * ((rr ((e1 * 40 + r) * 5 + 1)) * 100000000000))) * ((rr ((e1 * 40 + r) * 5 + 1)) * 100000000000)) / CT)], fr, ((((2 * ce) + ((rr ((e1 * 40 + r) * 5 + 1)) * 100000000000)) / (2 * ((rr ((e1 * 40 + r) * 5 + 1)) * 100000000000))) * ((rr ((e1 * 40 + r) * 5 + 1)) * 100000000000))) := by unfold sE mF; rw [eR]; rfl
      have hSd9 : mSd G _ _ (-1) (L ++ [(4, r, ((((2 * ce) + ((rr ((e1 * 40 + r) * 5 + 1)) * 100000000000)) / (2 * ((rr ((e1 * 40 + r) * 5 + 1)) * 100000000000))) * ((rr ((e1 * 40 + r) * 5 + 1)) * 100000000000)) / CT)], fr, ((((2 * ce) + ((rr ((e1 * 40 + r) * 5 + 1)) * 100000000000)) / (2 * ((rr ((e1 * 40 + r) * 5 + 1)) * 100000000000))) * ((rr ((e1 * 40 + r) * 5 + 1)) * 100000000000))) := ⟨va_up sl L.length 4, va_up sr L.length r, va_up sc L.length (((((2 * ce) + ((rr ((e1 * 40 + r) * 5 + 1)) * 100000000000)) / (2 * ((rr ((e1 * 40 + r) * 5 + 1)) * 100000000000))) * ((rr ((e1 * 40 + r) * 5 + 1)) * 100000000000)) / CT), (by show mSt G _ _ _ (L ++ [_]).length _ _ _ _ _; rw [List.length_append]; exact hSt), mSd.add hq 4 r _⟩
      rw [← hs] at hSd9
      refine lv_iconst (v := 1) hx hb d_MO_reckon_543 (by decide) ?_
      exact f_zret C hr rfl hI ⟨by rw [hrk]; rfl, mf_9, g_x, hm1, by rw [hrk]; exact hSd9, hF⟩ hX (Nat.le_refl _) (Nat.le_refl _) d_MO_reckon_544
  have JD : ∀ (e1 g li rate pay : Nat), e1 < 11 → g ≤ 9 → li ≤ 1000000 → pay ≤ 1000000 → ∀ (h1 : fH) (mf1 : Nat → Value) (d : dst) (H : Heap) (locs : List Loc), h1 x = some (40, 0, .inr (8, mo mf1)) → mFc G h1 mf1 nf fl fk fd fw fv → mEd G h1 mf1 ne ef rr rm → mSd G h1 mf1 (-1) d → (∀ j, j < 14 ∨ 20 < j → mf1 j = mf j) → fF (inR [40, 56, 57, 58]) h h1 → fX h sz h1 → fI G.1 g_cl (fA h sz) s.heap h1 H locs → rk (mK nf fl fk fd fw fv lot day on) (mE ne ef rr rm day) = (-1, sE (mF rr rm e1 4 0 0) (mV rr e1) (sD (mF rr rm e1 1 g 0) ((mK nf fl fk fd fw fv lot day on) 3) (mV rr e1) d)) → d.1.length ≤ 3 ∧ d.2.2 ≤ 1000000000000000000 ∧ ¬ ((mF rr rm e1 1 g 0).isSome = true ∧ ((mK nf fl fk fd fw fv lot day on) 3).isNone = true) → ∀ ls : Array Slot, lv_has ls 25 [(0, .ref x), (1, .int (nI lot)), (2, .long (lN day)), (4, .long (lN on)), (6, .int (nI e1)), (7, .long (lN g)), (11, .long (lN li)), (13, .int (nI rate)), (14, .int (oN (ff (fp rr e1 1 g 0) 0 (rm e1)))), (15, .int (bI (hk fl fk fd fw lot 3 day on nf))), (16, .long (lN pay))] → W p l e { frames := 1, cells := 0, slots := 0, locals := 29 } s m ([.ref x, .int (nI lot), .long (lN day), .long (lN on)] : List Value).toArray below meth c H locs 0 0 (MQ below (cQi G h sz (fun r h' => r = (if (rk (mK nf fl fk fd fw fv lot day on) (mE ne ef rr rm day)).1 = -1 then 1 else 0) ∧ ∃ mf', h' x = some (40, 0, .inr (8, mo mf')) ∧ (∀ j, j < 14 ∨ 20 < j → mf' j = mf j) ∧ mSd G h' mf' (rk (mK nf fl fk fd fw fv lot day on) (mE ne ef rr rm day)).1 (rk (mK nf fl fk fd fw fv lot day on) (mE ne ef rr rm day)).2 ∧ fF (inR [40, 56, 57, 58]) h h')) ([.ref x, .int (nI lot), .long (lN day), .long (lN on)] : List Value).toArray s 0 0 (fA h sz)) (F0 m 421 ls []) := by
    intro e1 g li rate pay be bg bli bpay
    intro h1 mf1 d H locs g_x hFc hEd hSd hm1 hF hX hI hrk hb1 ls hl
    obtain ⟨sl, sr, sc, hSt, hq⟩ := hSd
    obtain ⟨L, fr, ce⟩ := d
    dsimp only at hb1 hSt hq
    obtain ⟨a15, a16, a17, ⟨v_14, v_15, v_16, v_17, v_18, v_19, v_20⟩, ⟨g_a15, g_a16, g_a17⟩⟩ := hSt
    obtain ⟨a7, a8, a9, a10, a11, ⟨v_7, v_8, v_9, v_10, v_11, v_12⟩, ⟨g_a7, g_a8, g_a9, g_a10, g_a11⟩, bnf, bfl, bfk, bfd, bfw, bfv0⟩ := id hFc
    have bfv : ∀ i, fv i ≤ 100000000 := fun i => Nat.le_trans (bfv0 i) (mostN_le _)
    have hz0 := hI.2.2.2.1
    have hSd9 : mSd G h1 mf1 (-1) (L, fr, ce) := ⟨sl, sr, sc, ⟨a15, a16, a17, ⟨v_14, v_15, v_16, v_17, v_18, v_19, v_20⟩, ⟨g_a15, g_a16, g_a17⟩⟩, hq⟩
    rcases eS : ff (fp rr e1 1 g 0) 0 (rm e1) with _ | r
    · have hs : sD (mF rr rm e1 1 g 0) ((mK nf fl fk fd fw fv lot day on) 3) (mV rr e1) (L, fr, ce) = (L, fr, ce) := by unfold sD mF; rw [eS]
      rw [eS] at hl
      have hl : lv_has ls 25 [(0, .ref x), (1, .int (nI lot)), (2, .long (lN day)), (4, .long (lN on)), (6, .int (nI e1)), (7, .long (lN g)), (11, .long (lN li)), (13, .int (nI rate)), (14, .int (-1)), (15, .int (bI (hk fl fk fd fw lot 3 day on nf))), (16, .long (lN pay))] := hl
      refine lv_iload hx hb d_MO_reckon_421 (lv_at hl 8 rfl) ?_
      refine lv_iconst (v := (-1)) hx hb d_MO_reckon_423 (by decide) ?_
      refine lv_icmp_eq (tgt := 478) hx hb d_MO_reckon_424 (by decide) (fun c_10 => ?_) (fun c_10 => absurd rfl c_10)
      have hl : lv_has ls 25 [(0, .ref x), (1, .int (nI lot)), (2, .long (lN day)), (4, .long (lN on)), (6, .int (nI e1)), (7, .long (lN g)), (11, .long (lN li)), (13, .int (nI rate)), (14, .int (oN (ff (fp rr e1 1 g 0) 0 (rm e1)))), (15, .int (bI (hk fl fk fd fw lot 3 day on nf))), (16, .long (lN pay))] := by rw [eS]; exact lv_sub hl [0, 1, 2, 3, 4, 5, 6, 7, 8, 9, 10] rfl
      exact JE e1 g li rate pay be bg bli bpay _ mf1 (L, fr, ce) _ _ g_x hFc hEd hSd9 hm1 hF hX hI (hrk.trans (by rw [hs])) ⟨by dsimp only; omega, by dsimp only; omega⟩ ls hl
    · rw [eS] at hl
      obtain ⟨-, r2, r3⟩ := ff_in eS
      have hkr := fp_k r3
      have hokr := brk e1 r be (by omega)
      have hrm := brm e1
      rcases hk_ix (fl := fl) (fk := fk) (fd := fd) (fw := fw) (lot := lot) (kind := 3) (day := day) (on := on) nf with e3 | ⟨i3, hi3, e3, hh3⟩
      · exact absurd ⟨by unfold mF; rw [eS]; rfl, by show (kv fv (hk fl fk fd fw lot 3 day on nf)).isNone = true; rw [e3]; rfl⟩ hb1.2.2
      · rw [e3, bI_k (by omega)] at hl
        have hl : lv_has ls 25 [(0, .ref x), (1, .int (nI lot)), (2, .long (lN day)), (4, .long (lN on)), (6, .int (nI e1)), (7, .long (lN g)), (11, .long (lN li)), (13, .int (nI rate)), (14, .int (nI r)), (15, .int (nI i3)), (16, .long (lN pay))] := hl
        have hv := (hokr.2.2.2.1 hkr)
        have hK3 : (mK nf fl fk fd fw fv lot day on) 3 = some (fv i3) := by show kv fv (hk fl fk fd fw lot 3 day on nf) = _; rw [e3]; exact kv_k (by omega)
        have hc9 : ce / 100 * rr ((e1 * 40 + r) * 5 + 3) ≤ ce / 100 * 100 := Nat.mul_le_mul_left _ hv.2
        have hc8 : ce / 100 * 100 ≤ ce := Nat.div_mul_le_self _ _
        refine lv_iload hx hb d_MO_reckon_421 (lv_at hl 8 rfl) ?_
        refine lv_iconst (v := (-1)) hx hb d_MO_reckon_423 (by decide) ?_
        refine lv_icmp_eq (tgt := 478) hx hb d_MO_reckon_424 (by decide) (fun c_11 => absurd c_11 (n_m1 (by omega))) (fun c_11 => ?_)
        refine lv_aload_n hx hb d_MO_reckon_427 rfl (lv_at hl 0 rfl) ?_
        refine f_get (C := "DutyRulesModel") (T := T_MO) (N := 40) hx hb (fun w q => hT w (s_MO w q)) hown hK hI g_x rfl 11 (by decide) (hT _ w_820) (fun _ q => q) (mo_get (by decide) v_11) d_MO_reckon_428 ?_
        refine lv_iload hx hb d_MO_reckon_431 (lv_at hl 9 rfl) ?_
        refine f_laldn (k := i3) (v := (lN (fv i3))) hx hb hI g_a11 (fT.ofK hK (t0 := 1) rfl) (by omega) (by omega) rfl d_MO_reckon_433 ?_
        refine lv_aload_n hx hb d_MO_reckon_434 rfl (lv_at hl 0 rfl) ?_
        refine lv_iload hx hb d_MO_reckon_435 (lv_at hl 4 rfl) ?_
        refine lv_iload hx hb d_MO_reckon_437 (lv_at hl 8 rfl) ?_
        refine lv_iconst (v := 2) hx hb d_MO_reckon_439 (by decide) ?_
        refine f_calli hI (f_runV C hI (c_MO_value l G h1 _ x e1 r 2 mf1 g_x ne ef rr rm hEd (by omega) (by omega) (by omega)) gm_MO_value w_1036 p_MO_value w_1034 g_x rfl rfl rfl hl.1 rfl (Nat.le_of_ble_eq_true rfl) ⟨Nat.le_of_ble_eq_true rfl, Nat.le_of_ble_eq_true rfl⟩ d_MO_reckon_440 ⟨Nat.le_of_ble_eq_true rfl, Nat.le_of_ble_eq_true rfl⟩) (fun r_12 h8 H9 locs hp9 hX9 hz9 hI => ?_)
        obtain ⟨rfl, e9⟩ := hp9
        rw [e9] at hI
        clear hX9 e9
        refine lv_i2l (v := lN (rr ((e1 * 40 + r) * 5 + 2))) hx hb d_MO_reckon_443 (n_i2l (by have := brr ((e1 * 40 + r) * 5 + 2); omega)) ?_
        refine f_lc_ge (tgt := 478) hx hb d_MO_reckon_444 d_MO_reckon_445 (by decide) (fun c_13 => ?_) (fun c_13 => ?_)
        · have c_13 : (rr ((e1 * 40 + r) * 5 + 2)) ≤ (fv i3) := (pk_lLE (a := (rr ((e1 * 40 + r) * 5 + 2))) (b := (fv i3)) (by have := brr ((e1 * 40 + r) * 5 + 2); omega) (by have := bfv i3; omega)).mp c_13
          have hl : lv_has ls 25 [(0, .ref x), (1, .int (nI lot)), (2, .long (lN day)), (4, .long (lN on)), (6, .int (nI e1)), (7, .long (lN g)), (11, .long (lN li)), (13, .int (nI rate)), (14, .int (oN (ff (fp rr e1 1 g 0) 0 (rm e1)))), (15, .int (bI (hk fl fk fd fw lot 3 day on nf))), (16, .long (lN pay))] := by rw [eS, e3, bI_k (by omega)]; exact lv_sub hl [0, 1, 2, 3, 4, 5, 6, 7, 8, 9, 10] rfl
          have hs : sD (mF rr rm e1 1 g 0) ((mK nf fl fk fd fw fv lot day on) 3) (mV rr e1) (L, fr, ce) = (L, fr, ce) := by rw [hK3]; unfold sD mF; rw [eS]; exact if_neg (show ¬ fv i3 < rr ((e1 * 40 + r) * 5 + 2) by omega)
          exact JE e1 g li rate pay be bg bli bpay _ mf1 (L, fr, ce) _ _ g_x hFc hEd hSd9 hm1 hF hX hI (hrk.trans (by rw [hs])) ⟨by dsimp only; omega, by dsimp only; omega⟩ ls hl
        · have c_13 : ¬ (rr ((e1 * 40 + r) * 5 + 2)) ≤ (fv i3) := fun q => c_13 ((pk_lLE (a := (rr ((e1 * 40 + r) * 5 + 2))) (b := (fv i3)) (by have := brr ((e1 * 40 + r) * 5 + 2); omega) (by have := bfv i3; omega)).mpr q)
          refine lv_aload_n hx hb d_MO_reckon_448 rfl (lv_at hl 0 rfl) ?_
          refine lv_aload_n hx hb d_MO_reckon_449 rfl (lv_at hl 0 rfl) ?_
          refine f_get (C := "DutyRulesModel") (T := T_MO) (N := 40) hx hb (fun w q => hT w (s_MO w q)) hown hK hI g_x rfl 20 (by decide) (hT _ w_829) (fun _ q => q) (mo_get (by decide) v_20) d_MO_reckon_450 ?_
          refine lv_ldc2 (v := 100) hx hb hown (hT _ w_1001) d_MO_reckon_453 ?_
          refine lv_ldiv hx hb d_MO_reckon_456 (l_ne0 (a := 100) (by omega) (by omega)) ?_
          refine f_asl (pk_lDiv (a := ce) (b := 100) (by omega) (by omega) (by omega)) ?_
          refine lv_aload_n hx hb d_MO_reckon_457 rfl (lv_at hl 0 rfl) ?_
          refine lv_iload hx hb d_MO_reckon_458 (lv_at hl 4 rfl) ?_
          refine lv_iload hx hb d_MO_reckon_460 (lv_at hl 8 rfl) ?_
          refine lv_iconst (v := 3) hx hb d_MO_reckon_462 (by decide) ?_
          refine f_calli hI (f_runV C hI (c_MO_value l G h1 _ x e1 r 3 mf1 g_x ne ef rr rm hEd (by omega) (by omega) (by omega)) gm_MO_value w_1036 p_MO_value w_1034 g_x rfl rfl rfl hl.1 rfl (Nat.le_of_ble_eq_true rfl) ⟨Nat.le_of_ble_eq_true rfl, Nat.le_of_ble_eq_true rfl⟩ d_MO_reckon_463 ⟨Nat.le_of_ble_eq_true rfl, Nat.le_of_ble_eq_true rfl⟩) (fun r_14 h8 H9 locs hp9 hX9 hz9 hI => ?_)
          obtain ⟨rfl, e9⟩ := hp9
          rw [e9] at hI
          clear hX9 e9
          refine lv_i2l (v := lN (rr ((e1 * 40 + r) * 5 + 3))) hx hb d_MO_reckon_466 (n_i2l (by have := brr ((e1 * 40 + r) * 5 + 3); omega)) ?_
          refine lv_lmul hx hb d_MO_reckon_467 ?_
          refine f_asl (lN_mul (ce / 100) (rr ((e1 * 40 + r) * 5 + 3))) ?_
          refine f_put (C := "DutyRulesModel") (T := T_MO) (N := 40) (fs' := mo (va_up mf1 20 (.long (lN ((ce / 100) * (rr ((e1 * 40 + r) * 5 + 3))))))) (v := .long (lN ((ce / 100) * (rr ((e1 * 40 + r) * 5 + 3))))) hx hb (fun w q => hT w (s_MO w q)) t_MO k_MO n_MO hown hK hI g_x (by decide) rfl 20 (by decide) (hT _ w_829) (fun _ q => q) rfl rfl rfl (by rw [mo_len]; decide) (mo_set _) d_MO_reckon_468 (fun H locs hI => ?_)
          generalize emf_15 : va_up mf1 20 (.long (lN ((ce / 100) * (rr ((e1 * 40 + r) * 5 + 3))))) = mf_15 at hI
          have v_11 : mf_15 11 = .ref a11 := (congrFun emf_15 11).symm.trans ((va_up_ne _ _ (by decide)).trans v_11)
          have v_14 : mf_15 14 = .int (-1) := (congrFun emf_15 14).symm.trans ((va_up_ne _ _ (by decide)).trans v_14)
          have v_15 : mf_15 15 = .ref a15 := (congrFun emf_15 15).symm.trans ((va_up_ne _ _ (by decide)).trans v_15)
          have v_16 : mf_15 16 = .ref a16 := (congrFun emf_15 16).symm.trans ((va_up_ne _ _ (by decide)).trans v_16)
          have v_17 : mf_15 17 = .ref a17 := (congrFun emf_15 17).symm.trans ((va_up_ne _ _ (by decide)).trans v_17)
          have v_18 : mf_15 18 = .int (nI L.length) := (congrFun emf_15 18).symm.trans ((va_up_ne _ _ (by decide)).trans v_18)
          have v_19 : mf_15 19 = .long (lN fr) := (congrFun emf_15 19).symm.trans ((va_up_ne _ _ (by decide)).trans v_19)
          have v_20 : mf_15 20 = .long (lN ((ce / 100) * (rr ((e1 * 40 + r) * 5 + 3)))) := (congrFun emf_15 20).symm.trans (va_up_self _ _ _)
          generalize eh_16 : fU h1 x (40, 0, .inr (8, mo mf_15)) = h_16 at hI
          have hX := hX.set (e := .inr (8, mo mf_15)) g_x (by decide); rw [eh_16] at hX
          have hF := hF.set (e := .inr (8, mo mf_15)) g_x (by decide); rw [eh_16] at hF
          have g_a15 : h_16 a15 = some (56, 0, .inl ((G.2.1 0), 5, .inl (fun i => nI (sl i)))) := (congrFun eh_16 a15).symm.trans (fU_keep g_a15 (f_neR g_a15 g_x (by decide)))
          have g_a16 : h_16 a16 = some (57, 0, .inl ((G.2.1 0), 5, .inl (fun i => nI (sr i)))) := (congrFun eh_16 a16).symm.trans (fU_keep g_a16 (f_neR g_a16 g_x (by decide)))
          have g_a17 : h_16 a17 = some (58, 0, .inl ((G.2.1 1), 5, .inr (.inl (fun i => lN (sc i))))) := (congrFun eh_16 a17).symm.trans (fU_keep g_a17 (f_neR g_a17 g_x (by decide)))
          have g_a11 : h_16 a11 = some (52, 0, .inl ((G.2.1 1), 300, .inr (.inl (fun i => lN (fv i))))) := (congrFun eh_16 a11).symm.trans (fU_keep g_a11 (f_neR g_a11 g_x (by decide)))
          have hW9 : fF (inR [40]) h1 h_16 := by rw [← eh_16]; exact fF.rf.set g_x (by decide)
          have g_x : h_16 x = some (40, 0, .inr (8, mo mf_15)) := (congrFun eh_16 x).symm.trans (fU_self _ _ _)
          have hFc := mFc.keep (mf' := mf_15) hFc (fun j h1 h2 => (congrFun emf_15 j).symm.trans (va_up_ne _ _ (ne_out h1 h2 (by decide)))) hW9 (by decide)
          have hEd := mEd.keep (mf' := mf_15) hEd (fun j h1 h2 => (congrFun emf_15 j).symm.trans (va_up_ne _ _ (ne_out h1 h2 (by decide)))) hW9 (by decide)
          have hm1 : ∀ j, j < 14 ∨ 20 < j → mf_15 j = mf j := fun j hj => (congrFun emf_15 j).symm.trans ((va_up_ne _ _ (ne_rng hj (by decide))).trans (hm1 j hj))
          refine lv_aload_n hx hb d_MO_reckon_471 rfl (lv_at hl 0 rfl) ?_
          refine lv_iconst (v := 3) hx hb d_MO_reckon_472 (by decide) ?_
          refine lv_iload hx hb d_MO_reckon_473 (lv_at hl 8 rfl) ?_
          have hz8 := hI.2.2.2.1
          refine f_callv hI (f_runV C hI (c_MO_step l G h_16 _ x 3 r mf_15 g_x _ (L.length) sl sr sc _ _ ⟨a15, a16, a17, ⟨v_14, v_15, v_16, v_17, v_18, v_19, v_20⟩, ⟨g_a15, g_a16, g_a17⟩⟩ (by omega) (by omega)) gm_MO_step w_1040 p_MO_step w_1038 g_x rfl rfl rfl hl.1 rfl (Nat.le_of_ble_eq_true rfl) ⟨Nat.le_of_ble_eq_true rfl, Nat.le_of_ble_eq_true rfl⟩ d_MO_reckon_475 ⟨Nat.le_of_ble_eq_true rfl, Nat.le_of_ble_eq_true rfl⟩) (fun h9 H9 locs hp9 hX9 hz9 hI => ?_)
          obtain ⟨mf_18, g_x, hm9, hSt, hF9⟩ := hp9
          have hFc := hFc.keep (fun j h1 h2 => hm9 j (ne_out h1 h2 (by decide))) hF9 (by decide)
          have hEd := hEd.keep (fun j h1 h2 => hm9 j (ne_out h1 h2 (by decide))) hF9 (by decide)
          have hm1 : ∀ j, j < 14 ∨ 20 < j → mf_18 j = mf j := fun j hj => (hm9 j (ne_rng hj (by decide))).trans (hm1 j hj)
          have hF := hF.tr hF9
          have hX := fX.tr (by omega) hX hX9
          have hlt : fv i3 < rr ((e1 * 40 + r) * 5 + 2) := by omega
          have hl : lv_has ls 25 [(0, .ref x), (1, .int (nI lot)), (2, .long (lN day)), (4, .long (lN on)), (6, .int (nI e1)), (7, .long (lN g)), (11, .long (lN li)), (13, .int (nI rate)), (14, .int (oN (ff (fp rr e1 1 g 0) 0 (rm e1)))), (15, .int (bI (hk fl fk fd fw lot 3 day on nf))), (16, .long (lN pay))] := by rw [eS, e3, bI_k (by omega)]; exact lv_sub hl [0, 1, 2, 3, 4, 5, 6, 7, 8, 9, 10] rfl
          have hs : sD (mF rr rm e1 1 g 0) ((mK nf fl fk fd fw fv lot day on) 3) (mV rr e1) (L, fr, ce) = (L ++ [(3, r, ((ce / 100) * (rr ((e1 * 40 + r) * 5 + 3))) / CT)], fr, ((ce / 100) * (rr ((e1 * 40 + r) * 5 + 3)))) := by rw [hK3]; unfold sD mF; rw [eS]; exact if_pos (by assumption)
          have hSd9 : mSd G _ _ (-1) (L ++ [(3, r, ((ce / 100) * (rr ((e1 * 40 + r) * 5 + 3))) / CT)], fr, ((ce / 100) * (rr ((e1 * 40 + r) * 5 + 3)))) := ⟨va_up sl L.length 3, va_up sr L.length r, va_up sc L.length (((ce / 100) * (rr ((e1 * 40 + r) * 5 + 3))) / CT), (by show mSt G _ _ _ (L ++ [_]).length _ _ _ _ _; rw [List.length_append]; exact hSt), mSd.add hq 3 r _⟩
          exact JE e1 g li rate pay be bg bli bpay _ mf_18 _ _ _ g_x hFc hEd hSd9 hm1 hF hX hI (hrk.trans (by rw [hs])) ⟨by simp only [List.length_append, List.length_cons, List.length_nil]; omega, by dsimp only; omega⟩ ls hl
  have JC : ∀ (e1 g li rate pay : Nat), e1 < 11 → g ≤ 9 → li ≤ 1000000 → pay ≤ 1000000 → ∀ (h1 : fH) (mf1 : Nat → Value) (d : dst) (H : Heap) (locs : List Loc), h1 x = some (40, 0, .inr (8, mo mf1)) → mFc G h1 mf1 nf fl fk fd fw fv → mEd G h1 mf1 ne ef rr rm → mSd G h1 mf1 (-1) d → (∀ j, j < 14 ∨ 20 < j → mf1 j = mf j) → fF (inR [40, 56, 57, 58]) h h1 → fX h sz h1 → fI G.1 g_cl (fA h sz) s.heap h1 H locs → rk (mK nf fl fk fd fw fv lot day on) (mE ne ef rr rm day) = (-1, sE (mF rr rm e1 4 0 0) (mV rr e1) (sD (mF rr rm e1 1 g 0) ((mK nf fl fk fd fw fv lot day on) 3) (mV rr e1) (sC li pay ((mK nf fl fk fd fw fv lot day on) 5) (mF rr rm e1 3 g 0) (mV rr e1) d))) → d.1.length ≤ 2 ∧ d.2.2 = (li * 100 - d.2.1) * pay * 10000 ∧ d.2.1 ≤ li * 100 ∧ ¬ ((mF rr rm e1 1 g 0).isSome = true ∧ ((mK nf fl fk fd fw fv lot day on) 3).isNone = true) → ∀ ls : Array Slot, lv_has ls 25 [(0, .ref x), (1, .int (nI lot)), (2, .long (lN day)), (4, .long (lN on)), (6, .int (nI e1)), (7, .long (lN g)), (11, .long (lN li)), (13, .int (nI rate)), (14, .int (oN (ff (fp rr e1 1 g 0) 0 (rm e1)))), (15, .int (bI (hk fl fk fd fw lot 3 day on nf))), (16, .long (lN pay))] → W p l e { frames := 1, cells := 0, slots := 0, locals := 29 } s m ([.ref x, .int (nI lot), .long (lN day), .long (lN on)] : List Value).toArray below meth c H locs 0 0 (MQ below (cQi G h sz (fun r h' => r = (if (rk (mK nf fl fk fd fw fv lot day on) (mE ne ef rr rm day)).1 = -1 then 1 else 0) ∧ ∃ mf', h' x = some (40, 0, .inr (8, mo mf')) ∧ (∀ j, j < 14 ∨ 20 < j → mf' j = mf j) ∧ mSd G h' mf' (rk (mK nf fl fk fd fw fv lot day on) (mE ne ef rr rm day)).1 (rk (mK nf fl fk fd fw fv lot day on) (mE ne ef rr rm day)).2 ∧ fF (inR [40, 56, 57, 58]) h h')) ([.ref x, .int (nI lot), .long (lN day), .long (lN on)] : List Value).toArray s 0 0 (fA h sz)) (F0 m 323 ls []) := by
    intro e1 g li rate pay be bg bli bpay
    intro h1 mf1 d H locs g_x hFc hEd hSd hm1 hF hX hI hrk hb1 ls hl
    obtain ⟨sl, sr, sc, hSt, hq⟩ := hSd
    obtain ⟨L, fr, ce⟩ := d
    dsimp only at hb1 hSt hq
    obtain ⟨a15, a16, a17, ⟨v_14, v_15, v_16, v_17, v_18, v_19, v_20⟩, ⟨g_a15, g_a16, g_a17⟩⟩ := hSt
    obtain ⟨a7, a8, a9, a10, a11, ⟨v_7, v_8, v_9, v_10, v_11, v_12⟩, ⟨g_a7, g_a8, g_a9, g_a10, g_a11⟩, bnf, bfl, bfk, bfd, bfw, bfv0⟩ := id hFc
    have bfv : ∀ i, fv i ≤ 100000000 := fun i => Nat.le_trans (bfv0 i) (mostN_le _)
    have hz0 := hI.2.2.2.1
    have hlp : (li * 100 - fr) * pay ≤ 100000000 * 1000000 := mulle (by omega) bpay
    have hSd9 : mSd G h1 mf1 (-1) (L, fr, ce) := ⟨sl, sr, sc, ⟨a15, a16, a17, ⟨v_14, v_15, v_16, v_17, v_18, v_19, v_20⟩, ⟨g_a15, g_a16, g_a17⟩⟩, hq⟩
    rcases eS : ff (fp rr e1 3 g 0) 0 (rm e1) with _ | r
    · have hs : sC li pay ((mK nf fl fk fd fw fv lot day on) 5) (mF rr rm e1 3 g 0) (mV rr e1) (L, fr, ce) = (L, fr, ce) := by unfold sC mF; rw [eS]; cases (mK nf fl fk fd fw fv lot day on) 5 <;> rfl
      refine lv_aload_n hx hb d_MO_reckon_323 rfl (lv_at hl 0 rfl) ?_
      refine lv_iload_n hx hb d_MO_reckon_324 rfl (lv_at hl 1 rfl) ?_
      refine lv_iconst (v := 5) hx hb d_MO_reckon_325 (by decide) ?_
      refine lv_lload_n hx hb d_MO_reckon_326 rfl (lv_at hl 2 rfl) ?_
      refine lv_lload hx hb d_MO_reckon_327 (lv_at hl 3 rfl) ?_
      refine f_calli hI (f_runV C hI (c_MO_holds l G h1 _ x nf lot 5 day on fl fk fd fw fv mf1 g_x hFc bl31 (by decide) bd31 bo31) gm_MO_holds w_1028 p_MO_holds w_1026 g_x rfl rfl rfl hl.1 rfl (Nat.le_of_ble_eq_true rfl) ⟨Nat.le_of_ble_eq_true rfl, Nat.le_of_ble_eq_true rfl⟩ d_MO_reckon_329 ⟨Nat.le_of_ble_eq_true rfl, Nat.le_of_ble_eq_true rfl⟩) (fun r_19 h8 H9 locs hp9 hX9 hz9 hI => ?_)
      obtain ⟨rfl, e9⟩ := hp9
      rw [e9] at hI
      clear hX9 e9
      refine lv_istore (lv' := [(20, .int (bI (hk fl fk fd fw lot 5 day on nf))), (0, .ref x), (1, .int (nI lot)), (2, .long (lN day)), (4, .long (lN on)), (6, .int (nI e1)), (7, .long (lN g)), (11, .long (lN li)), (13, .int (nI rate)), (14, .int (oN (ff (fp rr e1 1 g 0) 0 (rm e1)))), (15, .int (bI (hk fl fk fd fw lot 3 day on nf))), (16, .long (lN pay))]) hx hb d_MO_reckon_332 hl (by decide) rfl (fun ls hl => ?_)
      refine lv_aload_n hx hb d_MO_reckon_334 rfl (lv_at hl 1 rfl) ?_
      refine lv_iload hx hb d_MO_reckon_335 (lv_at hl 5 rfl) ?_
      refine lv_iconst (v := 3) hx hb d_MO_reckon_337 (by decide) ?_
      refine lv_lload hx hb d_MO_reckon_338 (lv_at hl 6 rfl) ?_
      refine lv_lconst (v := 0) hx hb d_MO_reckon_340 (by decide) ?_
      refine f_calli hI (f_runV C hI (c_MO_find l G h1 _ x e1 3 g 0 mf1 g_x ne ef rr rm hEd (by omega) (by omega) (by omega) (by omega)) gm_MO_find w_1032 p_MO_find w_1030 g_x rfl rfl rfl hl.1 rfl (Nat.le_of_ble_eq_true rfl) ⟨Nat.le_of_ble_eq_true rfl, Nat.le_of_ble_eq_true rfl⟩ d_MO_reckon_341 ⟨Nat.le_of_ble_eq_true rfl, Nat.le_of_ble_eq_true rfl⟩) (fun r_20 h8 H9 locs hp9 hX9 hz9 hI => ?_)
      obtain ⟨rfl, e9⟩ := hp9
      rw [e9] at hI
      clear hX9 e9
      rw [eS]
      refine lv_istore (lv' := [(21, .int (-1)), (20, .int (bI (hk fl fk fd fw lot 5 day on nf))), (0, .ref x), (1, .int (nI lot)), (2, .long (lN day)), (4, .long (lN on)), (6, .int (nI e1)), (7, .long (lN g)), (11, .long (lN li)), (13, .int (nI rate)), (14, .int (oN (ff (fp rr e1 1 g 0) 0 (rm e1)))), (15, .int (bI (hk fl fk fd fw lot 3 day on nf))), (16, .long (lN pay))]) hx hb d_MO_reckon_344 hl (by decide) rfl (fun ls hl => ?_)
      refine lv_iload hx hb d_MO_reckon_346 (lv_at hl 1 rfl) ?_
      refine lv_iconst (v := (-1)) hx hb d_MO_reckon_348 (by decide) ?_
      refine lv_icmp_eq (tgt := 421) hx hb d_MO_reckon_349 (by decide) (fun c_21 => ?_) (fun c_21 => ?_)
      · skip
        exact JD e1 g li rate pay be bg bli bpay _ mf1 (L, fr, ce) _ _ g_x hFc hEd hSd9 hm1 hF hX hI (hrk.trans (by rw [hs])) ⟨by dsimp only; omega, by dsimp only; omega, hb1.2.2.2⟩ ls (lv_sub hl [2, 3, 4, 5, 6, 7, 8, 9, 10, 11, 12] rfl)
      · skip
        refine lv_iload hx hb d_MO_reckon_352 (lv_at hl 0 rfl) ?_
        refine lv_iconst (v := (-1)) hx hb d_MO_reckon_354 (by decide) ?_
        refine lv_icmp_eq (tgt := 421) hx hb d_MO_reckon_355 (by decide) (fun c_22 => ?_) (fun c_22 => absurd rfl c_22)
        exact JD e1 g li rate pay be bg bli bpay _ mf1 (L, fr, ce) _ _ g_x hFc hEd hSd9 hm1 hF hX hI (hrk.trans (by rw [hs])) ⟨by dsimp only; omega, by dsimp only; omega, hb1.2.2.2⟩ ls (lv_sub hl [2, 3, 4, 5, 6, 7, 8, 9, 10, 11, 12] rfl)
    · skip
      obtain ⟨-, r2, r3⟩ := ff_in eS
      have hkr := fp_k r3
      have hokr := brk e1 r be (by omega)
      have hrm := brm e1
      rcases hk_ix (fl := fl) (fk := fk) (fd := fd) (fw := fw) (lot := lot) (kind := 5) (day := day) (on := on) nf with e5 | ⟨i5, hi5, e5, hh5⟩
      · have hs : sC li pay ((mK nf fl fk fd fw fv lot day on) 5) (mF rr rm e1 3 g 0) (mV rr e1) (L, fr, ce) = (L, fr, ce) := by unfold sC; rw [show (mK nf fl fk fd fw fv lot day on) 5 = none by show kv fv (hk fl fk fd fw lot 5 day on nf) = _; rw [e5]; rfl]
        refine lv_aload_n hx hb d_MO_reckon_323 rfl (lv_at hl 0 rfl) ?_
        refine lv_iload_n hx hb d_MO_reckon_324 rfl (lv_at hl 1 rfl) ?_
        refine lv_iconst (v := 5) hx hb d_MO_reckon_325 (by decide) ?_
        refine lv_lload_n hx hb d_MO_reckon_326 rfl (lv_at hl 2 rfl) ?_
        refine lv_lload hx hb d_MO_reckon_327 (lv_at hl 3 rfl) ?_
        refine f_calli hI (f_runV C hI (c_MO_holds l G h1 _ x nf lot 5 day on fl fk fd fw fv mf1 g_x hFc bl31 (by decide) bd31 bo31) gm_MO_holds w_1028 p_MO_holds w_1026 g_x rfl rfl rfl hl.1 rfl (Nat.le_of_ble_eq_true rfl) ⟨Nat.le_of_ble_eq_true rfl, Nat.le_of_ble_eq_true rfl⟩ d_MO_reckon_329 ⟨Nat.le_of_ble_eq_true rfl, Nat.le_of_ble_eq_true rfl⟩) (fun r_23 h8 H9 locs hp9 hX9 hz9 hI => ?_)
        obtain ⟨rfl, e9⟩ := hp9
        rw [e9] at hI
        clear hX9 e9
        rw [e5, bI_0]
        refine lv_istore (lv' := [(20, .int (-1)), (0, .ref x), (1, .int (nI lot)), (2, .long (lN day)), (4, .long (lN on)), (6, .int (nI e1)), (7, .long (lN g)), (11, .long (lN li)), (13, .int (nI rate)), (14, .int (oN (ff (fp rr e1 1 g 0) 0 (rm e1)))), (15, .int (bI (hk fl fk fd fw lot 3 day on nf))), (16, .long (lN pay))]) hx hb d_MO_reckon_332 hl (by decide) rfl (fun ls hl => ?_)
        refine lv_aload_n hx hb d_MO_reckon_334 rfl (lv_at hl 1 rfl) ?_
        refine lv_iload hx hb d_MO_reckon_335 (lv_at hl 5 rfl) ?_
        refine lv_iconst (v := 3) hx hb d_MO_reckon_337 (by decide) ?_
        refine lv_lload hx hb d_MO_reckon_338 (lv_at hl 6 rfl) ?_
        refine lv_lconst (v := 0) hx hb d_MO_reckon_340 (by decide) ?_
        refine f_calli hI (f_runV C hI (c_MO_find l G h1 _ x e1 3 g 0 mf1 g_x ne ef rr rm hEd (by omega) (by omega) (by omega) (by omega)) gm_MO_find w_1032 p_MO_find w_1030 g_x rfl rfl rfl hl.1 rfl (Nat.le_of_ble_eq_true rfl) ⟨Nat.le_of_ble_eq_true rfl, Nat.le_of_ble_eq_true rfl⟩ d_MO_reckon_341 ⟨Nat.le_of_ble_eq_true rfl, Nat.le_of_ble_eq_true rfl⟩) (fun r_24 h8 H9 locs hp9 hX9 hz9 hI => ?_)
        obtain ⟨rfl, e9⟩ := hp9
        rw [e9] at hI
        clear hX9 e9
        rw [eS]
        refine lv_istore (lv' := [(21, .int (nI r)), (20, .int (-1)), (0, .ref x), (1, .int (nI lot)), (2, .long (lN day)), (4, .long (lN on)), (6, .int (nI e1)), (7, .long (lN g)), (11, .long (lN li)), (13, .int (nI rate)), (14, .int (oN (ff (fp rr e1 1 g 0) 0 (rm e1)))), (15, .int (bI (hk fl fk fd fw lot 3 day on nf))), (16, .long (lN pay))]) hx hb d_MO_reckon_344 hl (by decide) rfl (fun ls hl => ?_)
        refine lv_iload hx hb d_MO_reckon_346 (lv_at hl 1 rfl) ?_
        refine lv_iconst (v := (-1)) hx hb d_MO_reckon_348 (by decide) ?_
        refine lv_icmp_eq (tgt := 421) hx hb d_MO_reckon_349 (by decide) (fun c_25 => ?_) (fun c_25 => absurd rfl c_25)
        exact JD e1 g li rate pay be bg bli bpay _ mf1 (L, fr, ce) _ _ g_x hFc hEd hSd9 hm1 hF hX hI (hrk.trans (by rw [hs])) ⟨by dsimp only; omega, by dsimp only; omega, hb1.2.2.2⟩ ls (lv_sub hl [2, 3, 4, 5, 6, 7, 8, 9, 10, 11, 12] rfl)
      · have hK5 : (mK nf fl fk fd fw fv lot day on) 5 = some (fv i5) := by show kv fv (hk fl fk fd fw lot 5 day on nf) = _; rw [e5]; exact kv_k (by omega)
        have hv := hokr.2.2.2.2.2.1 hkr
        have hfv := bfv i5
        have ha1 : min (fv i5 * 100) (li * 100 - fr) ≤ li * 100 - fr := Nat.min_le_right _ _
        have ha2 : min (fv i5 * 100) (li * 100 - fr) * pay ≤ (li * 100 - fr) * pay := Nat.mul_le_mul_right _ ha1
        have ha3 : min (fv i5 * 100) (li * 100 - fr) * pay * rr ((e1 * 40 + r) * 5 + 2) ≤ (li * 100 - fr) * pay * 100 := mulle ha2 hv
        refine lv_aload_n hx hb d_MO_reckon_323 rfl (lv_at hl 0 rfl) ?_
        refine lv_iload_n hx hb d_MO_reckon_324 rfl (lv_at hl 1 rfl) ?_
        refine lv_iconst (v := 5) hx hb d_MO_reckon_325 (by decide) ?_
        refine lv_lload_n hx hb d_MO_reckon_326 rfl (lv_at hl 2 rfl) ?_
        refine lv_lload hx hb d_MO_reckon_327 (lv_at hl 3 rfl) ?_
        refine f_calli hI (f_runV C hI (c_MO_holds l G h1 _ x nf lot 5 day on fl fk fd fw fv mf1 g_x hFc bl31 (by decide) bd31 bo31) gm_MO_holds w_1028 p_MO_holds w_1026 g_x rfl rfl rfl hl.1 rfl (Nat.le_of_ble_eq_true rfl) ⟨Nat.le_of_ble_eq_true rfl, Nat.le_of_ble_eq_true rfl⟩ d_MO_reckon_329 ⟨Nat.le_of_ble_eq_true rfl, Nat.le_of_ble_eq_true rfl⟩) (fun r_26 h8 H9 locs hp9 hX9 hz9 hI => ?_)
        obtain ⟨rfl, e9⟩ := hp9
        rw [e9] at hI
        clear hX9 e9
        rw [e5, bI_k (by omega)]
        refine lv_istore (lv' := [(20, .int (nI i5)), (0, .ref x), (1, .int (nI lot)), (2, .long (lN day)), (4, .long (lN on)), (6, .int (nI e1)), (7, .long (lN g)), (11, .long (lN li)), (13, .int (nI rate)), (14, .int (oN (ff (fp rr e1 1 g 0) 0 (rm e1)))), (15, .int (bI (hk fl fk fd fw lot 3 day on nf))), (16, .long (lN pay))]) hx hb d_MO_reckon_332 hl (by decide) rfl (fun ls hl => ?_)
        refine lv_aload_n hx hb d_MO_reckon_334 rfl (lv_at hl 1 rfl) ?_
        refine lv_iload hx hb d_MO_reckon_335 (lv_at hl 5 rfl) ?_
        refine lv_iconst (v := 3) hx hb d_MO_reckon_337 (by decide) ?_
        refine lv_lload hx hb d_MO_reckon_338 (lv_at hl 6 rfl) ?_
        refine lv_lconst (v := 0) hx hb d_MO_reckon_340 (by decide) ?_
        refine f_calli hI (f_runV C hI (c_MO_find l G h1 _ x e1 3 g 0 mf1 g_x ne ef rr rm hEd (by omega) (by omega) (by omega) (by omega)) gm_MO_find w_1032 p_MO_find w_1030 g_x rfl rfl rfl hl.1 rfl (Nat.le_of_ble_eq_true rfl) ⟨Nat.le_of_ble_eq_true rfl, Nat.le_of_ble_eq_true rfl⟩ d_MO_reckon_341 ⟨Nat.le_of_ble_eq_true rfl, Nat.le_of_ble_eq_true rfl⟩) (fun r_27 h8 H9 locs hp9 hX9 hz9 hI => ?_)
        obtain ⟨rfl, e9⟩ := hp9
        rw [e9] at hI
        clear hX9 e9
        rw [eS]
        refine lv_istore (lv' := [(21, .int (nI r)), (20, .int (nI i5)), (0, .ref x), (1, .int (nI lot)), (2, .long (lN day)), (4, .long (lN on)), (6, .int (nI e1)), (7, .long (lN g)), (11, .long (lN li)), (13, .int (nI rate)), (14, .int (oN (ff (fp rr e1 1 g 0) 0 (rm e1)))), (15, .int (bI (hk fl fk fd fw lot 3 day on nf))), (16, .long (lN pay))]) hx hb d_MO_reckon_344 hl (by decide) rfl (fun ls hl => ?_)
        refine lv_iload hx hb d_MO_reckon_346 (lv_at hl 1 rfl) ?_
        refine lv_iconst (v := (-1)) hx hb d_MO_reckon_348 (by decide) ?_
        refine lv_icmp_eq (tgt := 421) hx hb d_MO_reckon_349 (by decide) (fun c_28 => absurd c_28 (n_m1 (by omega))) (fun c_28 => ?_)
        refine lv_iload hx hb d_MO_reckon_352 (lv_at hl 0 rfl) ?_
        refine lv_iconst (v := (-1)) hx hb d_MO_reckon_354 (by decide) ?_
        refine lv_icmp_eq (tgt := 421) hx hb d_MO_reckon_355 (by decide) (fun c_29 => absurd c_29 (n_m1 (by omega))) (fun c_29 => ?_)
        refine lv_aload_n hx hb d_MO_reckon_358 rfl (lv_at hl 2 rfl) ?_
        refine f_get (C := "DutyRulesModel") (T := T_MO) (N := 40) hx hb (fun w q => hT w (s_MO w q)) hown hK hI g_x rfl 11 (by decide) (hT _ w_820) (fun _ q => q) (mo_get (by decide) v_11) d_MO_reckon_359 ?_
        refine lv_iload hx hb d_MO_reckon_362 (lv_at hl 1 rfl) ?_
        refine f_laldn (k := i5) (v := (lN (fv i5))) hx hb hI g_a11 (fT.ofK hK (t0 := 1) rfl) (by omega) (by omega) rfl d_MO_reckon_364 ?_
        refine lv_ldc2 (v := 100) hx hb hown (hT _ w_1001) d_MO_reckon_365 ?_
        refine lv_lmul hx hb d_MO_reckon_368 ?_
        refine f_asl (lN_mul (fv i5) 100) ?_
        refine lv_lload hx hb d_MO_reckon_369 (lv_at hl 8 rfl) ?_
        refine lv_ldc2 (v := 100) hx hb hown (hT _ w_1001) d_MO_reckon_371 ?_
        refine lv_lmul hx hb d_MO_reckon_374 ?_
        refine f_asl (lN_mul li 100) ?_
        refine lv_aload_n hx hb d_MO_reckon_375 rfl (lv_at hl 2 rfl) ?_
        refine f_get (C := "DutyRulesModel") (T := T_MO) (N := 40) hx hb (fun w q => hT w (s_MO w q)) hown hK hI g_x rfl 19 (by decide) (hT _ w_828) (fun _ q => q) (mo_get (by decide) v_19) d_MO_reckon_376 ?_
        refine lv_lsub hx hb d_MO_reckon_379 ?_
        refine f_asl (lN_sub (a := (li * 100)) (b := fr) (by omega)) ?_
        refine f_calll hI (f_runS C hI (c_MO_least l G h1 _ (lN ((fv i5) * 100)) (lN ((li * 100) - fr))) gm_MO_least w_1044 w_1043 rfl hl.1 rfl (Nat.le_of_ble_eq_true rfl) ⟨Nat.le_of_ble_eq_true rfl, Nat.le_of_ble_eq_true rfl⟩ d_MO_reckon_380 ⟨Nat.le_of_ble_eq_true rfl, Nat.le_of_ble_eq_true rfl⟩) (fun r_30 h8 H9 locs hp9 hX9 hz9 hI => ?_)
        obtain ⟨rfl, e9⟩ := hp9
        rw [e9] at hI
        clear hX9 e9
        refine f_asl (least_min (a := fv i5 * 100) (b := li * 100 - fr) (by omega) (by omega)) ?_
        refine lv_lstore (lv' := [(22, .long (lN (min (fv i5 * 100) (li * 100 - fr)))), (21, .int (nI r)), (20, .int (nI i5)), (0, .ref x), (1, .int (nI lot)), (2, .long (lN day)), (4, .long (lN on)), (6, .int (nI e1)), (7, .long (lN g)), (11, .long (lN li)), (13, .int (nI rate)), (14, .int (oN (ff (fp rr e1 1 g 0) 0 (rm e1)))), (15, .int (bI (hk fl fk fd fw lot 3 day on nf))), (16, .long (lN pay))]) hx hb d_MO_reckon_383 hl (by decide) rfl (fun ls hl => ?_)
        refine lv_aload_n hx hb d_MO_reckon_385 rfl (lv_at hl 3 rfl) ?_
        refine lv_dup hx hb d_MO_reckon_386 rfl ?_
        refine f_get (C := "DutyRulesModel") (T := T_MO) (N := 40) hx hb (fun w q => hT w (s_MO w q)) hown hK hI g_x rfl 20 (by decide) (hT _ w_829) (fun _ q => q) (mo_get (by decide) v_20) d_MO_reckon_387 ?_
        refine lv_lload hx hb d_MO_reckon_390 (lv_at hl 0 rfl) ?_
        refine lv_lload hx hb d_MO_reckon_392 (lv_at hl 13 rfl) ?_
        refine lv_lmul hx hb d_MO_reckon_394 ?_
        refine f_asl (lN_mul (min (fv i5 * 100) (li * 100 - fr)) pay) ?_
        refine lv_aload_n hx hb d_MO_reckon_395 rfl (lv_at hl 3 rfl) ?_
        refine lv_iload hx hb d_MO_reckon_396 (lv_at hl 7 rfl) ?_
        refine lv_iload hx hb d_MO_reckon_398 (lv_at hl 1 rfl) ?_
        refine lv_iconst (v := 2) hx hb d_MO_reckon_400 (by decide) ?_
        refine f_calli hI (f_runV C hI (c_MO_value l G h1 _ x e1 r 2 mf1 g_x ne ef rr rm hEd (by omega) (by omega) (by omega)) gm_MO_value w_1036 p_MO_value w_1034 g_x rfl rfl rfl hl.1 rfl (Nat.le_of_ble_eq_true rfl) ⟨Nat.le_of_ble_eq_true rfl, Nat.le_of_ble_eq_true rfl⟩ d_MO_reckon_401 ⟨Nat.le_of_ble_eq_true rfl, Nat.le_of_ble_eq_true rfl⟩) (fun r_31 h8 H9 locs hp9 hX9 hz9 hI => ?_)
        obtain ⟨rfl, e9⟩ := hp9
        rw [e9] at hI
        clear hX9 e9
        refine lv_i2l (v := lN (rr ((e1 * 40 + r) * 5 + 2))) hx hb d_MO_reckon_404 (n_i2l (by have := brr ((e1 * 40 + r) * 5 + 2); omega)) ?_
        refine lv_lmul hx hb d_MO_reckon_405 ?_
        refine f_asl (lN_mul ((min (fv i5 * 100) (li * 100 - fr)) * pay) (rr ((e1 * 40 + r) * 5 + 2))) ?_
        refine lv_ldc2 (v := 100) hx hb hown (hT _ w_1001) d_MO_reckon_406 ?_
        refine lv_lmul hx hb d_MO_reckon_409 ?_
        refine f_asl (lN_mul (((min (fv i5 * 100) (li * 100 - fr)) * pay) * (rr ((e1 * 40 + r) * 5 + 2))) 100) ?_
        refine lv_lsub hx hb d_MO_reckon_410 ?_
        refine f_asl (lN_sub (a := ce) (b := ((((min (fv i5 * 100) (li * 100 - fr)) * pay) * (rr ((e1 * 40 + r) * 5 + 2))) * 100)) (by have := bfv i5; have := brr ((e1 * 40 + r) * 5 + 2); omega)) ?_
        refine f_put (C := "DutyRulesModel") (T := T_MO) (N := 40) (fs' := mo (va_up mf1 20 (.long (lN (ce - ((((min (fv i5 * 100) (li * 100 - fr)) * pay) * (rr ((e1 * 40 + r) * 5 + 2))) * 100)))))) (v := .long (lN (ce - ((((min (fv i5 * 100) (li * 100 - fr)) * pay) * (rr ((e1 * 40 + r) * 5 + 2))) * 100)))) hx hb (fun w q => hT w (s_MO w q)) t_MO k_MO n_MO hown hK hI g_x (by decide) rfl 20 (by decide) (hT _ w_829) (fun _ q => q) rfl rfl rfl (by rw [mo_len]; decide) (mo_set _) d_MO_reckon_411 (fun H locs hI => ?_)
        generalize emf_32 : va_up mf1 20 (.long (lN (ce - ((((min (fv i5 * 100) (li * 100 - fr)) * pay) * (rr ((e1 * 40 + r) * 5 + 2))) * 100)))) = mf_32 at hI
        have v_11 : mf_32 11 = .ref a11 := (congrFun emf_32 11).symm.trans ((va_up_ne _ _ (by decide)).trans v_11)
        have v_14 : mf_32 14 = .int (-1) := (congrFun emf_32 14).symm.trans ((va_up_ne _ _ (by decide)).trans v_14)
        have v_15 : mf_32 15 = .ref a15 := (congrFun emf_32 15).symm.trans ((va_up_ne _ _ (by decide)).trans v_15)
        have v_16 : mf_32 16 = .ref a16 := (congrFun emf_32 16).symm.trans ((va_up_ne _ _ (by decide)).trans v_16)
        have v_17 : mf_32 17 = .ref a17 := (congrFun emf_32 17).symm.trans ((va_up_ne _ _ (by decide)).trans v_17)
        have v_18 : mf_32 18 = .int (nI L.length) := (congrFun emf_32 18).symm.trans ((va_up_ne _ _ (by decide)).trans v_18)
        have v_19 : mf_32 19 = .long (lN fr) := (congrFun emf_32 19).symm.trans ((va_up_ne _ _ (by decide)).trans v_19)
        have v_20 : mf_32 20 = .long (lN (ce - ((((min (fv i5 * 100) (li * 100 - fr)) * pay) * (rr ((e1 * 40 + r) * 5 + 2))) * 100))) := (congrFun emf_32 20).symm.trans (va_up_self _ _ _)
        generalize eh_33 : fU h1 x (40, 0, .inr (8, mo mf_32)) = h_33 at hI
        have hX := hX.set (e := .inr (8, mo mf_32)) g_x (by decide); rw [eh_33] at hX
        have hF := hF.set (e := .inr (8, mo mf_32)) g_x (by decide); rw [eh_33] at hF
        have g_a15 : h_33 a15 = some (56, 0, .inl ((G.2.1 0), 5, .inl (fun i => nI (sl i)))) := (congrFun eh_33 a15).symm.trans (fU_keep g_a15 (f_neR g_a15 g_x (by decide)))
        have g_a16 : h_33 a16 = some (57, 0, .inl ((G.2.1 0), 5, .inl (fun i => nI (sr i)))) := (congrFun eh_33 a16).symm.trans (fU_keep g_a16 (f_neR g_a16 g_x (by decide)))
        have g_a17 : h_33 a17 = some (58, 0, .inl ((G.2.1 1), 5, .inr (.inl (fun i => lN (sc i))))) := (congrFun eh_33 a17).symm.trans (fU_keep g_a17 (f_neR g_a17 g_x (by decide)))
        have g_a11 : h_33 a11 = some (52, 0, .inl ((G.2.1 1), 300, .inr (.inl (fun i => lN (fv i))))) := (congrFun eh_33 a11).symm.trans (fU_keep g_a11 (f_neR g_a11 g_x (by decide)))
        have hW9 : fF (inR [40]) h1 h_33 := by rw [← eh_33]; exact fF.rf.set g_x (by decide)
        have g_x : h_33 x = some (40, 0, .inr (8, mo mf_32)) := (congrFun eh_33 x).symm.trans (fU_self _ _ _)
        have hFc := mFc.keep (mf' := mf_32) hFc (fun j h1 h2 => (congrFun emf_32 j).symm.trans (va_up_ne _ _ (ne_out h1 h2 (by decide)))) hW9 (by decide)
        have hEd := mEd.keep (mf' := mf_32) hEd (fun j h1 h2 => (congrFun emf_32 j).symm.trans (va_up_ne _ _ (ne_out h1 h2 (by decide)))) hW9 (by decide)
        have hm1 : ∀ j, j < 14 ∨ 20 < j → mf_32 j = mf j := fun j hj => (congrFun emf_32 j).symm.trans ((va_up_ne _ _ (ne_rng hj (by decide))).trans (hm1 j hj))
        refine lv_aload_n hx hb d_MO_reckon_414 rfl (lv_at hl 3 rfl) ?_
        refine lv_iconst (v := 2) hx hb d_MO_reckon_415 (by decide) ?_
        refine lv_iload hx hb d_MO_reckon_416 (lv_at hl 1 rfl) ?_
        have hz8 := hI.2.2.2.1
        refine f_callv hI (f_runV C hI (c_MO_step l G h_33 _ x 2 r mf_32 g_x _ (L.length) sl sr sc _ _ ⟨a15, a16, a17, ⟨v_14, v_15, v_16, v_17, v_18, v_19, v_20⟩, ⟨g_a15, g_a16, g_a17⟩⟩ (by omega) (by omega)) gm_MO_step w_1040 p_MO_step w_1038 g_x rfl rfl rfl hl.1 rfl (Nat.le_of_ble_eq_true rfl) ⟨Nat.le_of_ble_eq_true rfl, Nat.le_of_ble_eq_true rfl⟩ d_MO_reckon_418 ⟨Nat.le_of_ble_eq_true rfl, Nat.le_of_ble_eq_true rfl⟩) (fun h9 H9 locs hp9 hX9 hz9 hI => ?_)
        obtain ⟨mf_35, g_x, hm9, hSt, hF9⟩ := hp9
        have hFc := hFc.keep (fun j h1 h2 => hm9 j (ne_out h1 h2 (by decide))) hF9 (by decide)
        have hEd := hEd.keep (fun j h1 h2 => hm9 j (ne_out h1 h2 (by decide))) hF9 (by decide)
        have hm1 : ∀ j, j < 14 ∨ 20 < j → mf_35 j = mf j := fun j hj => (hm9 j (ne_rng hj (by decide))).trans (hm1 j hj)
        have hF := hF.tr hF9
        have hX := fX.tr (by omega) hX hX9
        have hs : sC li pay ((mK nf fl fk fd fw fv lot day on) 5) (mF rr rm e1 3 g 0) (mV rr e1) (L, fr, ce) = (L ++ [(2, r, (ce - ((((min (fv i5 * 100) (li * 100 - fr)) * pay) * (rr ((e1 * 40 + r) * 5 + 2))) * 100)) / CT)], fr, (ce - ((((min (fv i5 * 100) (li * 100 - fr)) * pay) * (rr ((e1 * 40 + r) * 5 + 2))) * 100))) := by unfold sC mF; rw [hK5, eS]; rfl
        have hSd9 : mSd G _ _ (-1) (L ++ [(2, r, (ce - ((((min (fv i5 * 100) (li * 100 - fr)) * pay) * (rr ((e1 * 40 + r) * 5 + 2))) * 100)) / CT)], fr, (ce - ((((min (fv i5 * 100) (li * 100 - fr)) * pay) * (rr ((e1 * 40 + r) * 5 + 2))) * 100))) := ⟨va_up sl L.length 2, va_up sr L.length r, va_up sc L.length ((ce - ((((min (fv i5 * 100) (li * 100 - fr)) * pay) * (rr ((e1 * 40 + r) * 5 + 2))) * 100)) / CT), (by show mSt G _ _ _ (L ++ [_]).length _ _ _ _ _; rw [List.length_append]; exact hSt), mSd.add hq 2 r _⟩
        exact JD e1 g li rate pay be bg bli bpay _ mf_35 _ _ _ g_x hFc hEd hSd9 hm1 hF hX hI (hrk.trans (by rw [hs])) ⟨by simp only [List.length_append, List.length_cons, List.length_nil]; omega, by dsimp only; omega, hb1.2.2.2⟩ ls (lv_sub hl [3, 4, 5, 6, 7, 8, 9, 10, 11, 12, 13] rfl)
  have JB : ∀ (e1 g li rate pay : Nat), e1 < 11 → g ≤ 9 → li ≤ 1000000 → pay ≤ 1000000 → ∀ (h1 : fH) (mf1 : Nat → Value) (d : dst) (H : Heap) (locs : List Loc), h1 x = some (40, 0, .inr (8, mo mf1)) → mFc G h1 mf1 nf fl fk fd fw fv → mEd G h1 mf1 ne ef rr rm → mSd G h1 mf1 (-1) d → (∀ j, j < 14 ∨ 20 < j → mf1 j = mf j) → fF (inR [40, 56, 57, 58]) h h1 → fX h sz h1 → fI G.1 g_cl (fA h sz) s.heap h1 H locs → rk (mK nf fl fk fd fw fv lot day on) (mE ne ef rr rm day) = (-1, sE (mF rr rm e1 4 0 0) (mV rr e1) (sD (mF rr rm e1 1 g 0) ((mK nf fl fk fd fw fv lot day on) 3) (mV rr e1) (sC li pay ((mK nf fl fk fd fw fv lot day on) 5) (mF rr rm e1 3 g 0) (mV rr e1) (sB li pay ((mK nf fl fk fd fw fv lot day on) 4) (mF rr rm e1 2 g 0) (mV rr e1) d)))) → d.1.length ≤ 1 ∧ d.2.2 = li * pay * 1000000 ∧ d.2.1 = 0 ∧ ¬ ((mF rr rm e1 1 g 0).isSome = true ∧ ((mK nf fl fk fd fw fv lot day on) 3).isNone = true) → ∀ ls : Array Slot, lv_has ls 25 [(0, .ref x), (1, .int (nI lot)), (2, .long (lN day)), (4, .long (lN on)), (6, .int (nI e1)), (7, .long (lN g)), (11, .long (lN li)), (13, .int (nI rate)), (14, .int (oN (ff (fp rr e1 1 g 0) 0 (rm e1)))), (15, .int (bI (hk fl fk fd fw lot 3 day on nf))), (16, .long (lN pay))] → W p l e { frames := 1, cells := 0, slots := 0, locals := 29 } s m ([.ref x, .int (nI lot), .long (lN day), .long (lN on)] : List Value).toArray below meth c H locs 0 0 (MQ below (cQi G h sz (fun r h' => r = (if (rk (mK nf fl fk fd fw fv lot day on) (mE ne ef rr rm day)).1 = -1 then 1 else 0) ∧ ∃ mf', h' x = some (40, 0, .inr (8, mo mf')) ∧ (∀ j, j < 14 ∨ 20 < j → mf' j = mf j) ∧ mSd G h' mf' (rk (mK nf fl fk fd fw fv lot day on) (mE ne ef rr rm day)).1 (rk (mK nf fl fk fd fw fv lot day on) (mE ne ef rr rm day)).2 ∧ fF (inR [40, 56, 57, 58]) h h')) ([.ref x, .int (nI lot), .long (lN day), .long (lN on)] : List Value).toArray s 0 0 (fA h sz)) (F0 m 230 ls []) := by
    intro e1 g li rate pay be bg bli bpay
    intro h1 mf1 d H locs g_x hFc hEd hSd hm1 hF hX hI hrk hb1 ls hl
    obtain ⟨sl, sr, sc, hSt, hq⟩ := hSd
    obtain ⟨L, fr, ce⟩ := d
    dsimp only at hb1 hSt hq
    obtain ⟨a15, a16, a17, ⟨v_14, v_15, v_16, v_17, v_18, v_19, v_20⟩, ⟨g_a15, g_a16, g_a17⟩⟩ := hSt
    obtain ⟨a7, a8, a9, a10, a11, ⟨v_7, v_8, v_9, v_10, v_11, v_12⟩, ⟨g_a7, g_a8, g_a9, g_a10, g_a11⟩, bnf, bfl, bfk, bfd, bfw, bfv0⟩ := id hFc
    have bfv : ∀ i, fv i ≤ 100000000 := fun i => Nat.le_trans (bfv0 i) (mostN_le _)
    have hz0 := hI.2.2.2.1
    have hlp : li * pay ≤ 1000000 * 1000000 := mulle bli bpay
    have hlq : (li * 100 - 0) * pay * 10000 = li * pay * 1000000 := by rw [Nat.sub_zero, Nat.mul_right_comm li 100 pay]; omega
    obtain ⟨hb2, hb3, hb4, hb5⟩ := hb1
    subst hb4
    have hSd9 : mSd G h1 mf1 (-1) (L, 0, ce) := ⟨sl, sr, sc, ⟨a15, a16, a17, ⟨v_14, v_15, v_16, v_17, v_18, v_19, v_20⟩, ⟨g_a15, g_a16, g_a17⟩⟩, hq⟩
    rcases eS : ff (fp rr e1 2 g 0) 0 (rm e1) with _ | r
    · have hs : sB li pay ((mK nf fl fk fd fw fv lot day on) 4) (mF rr rm e1 2 g 0) (mV rr e1) (L, 0, ce) = (L, 0, ce) := by unfold sB mF; rw [eS]; cases (mK nf fl fk fd fw fv lot day on) 4 <;> rfl
      refine lv_aload_n hx hb d_MO_reckon_230 rfl (lv_at hl 0 rfl) ?_
      refine lv_iload_n hx hb d_MO_reckon_231 rfl (lv_at hl 1 rfl) ?_
      refine lv_iconst (v := 4) hx hb d_MO_reckon_232 (by decide) ?_
      refine lv_lload_n hx hb d_MO_reckon_233 rfl (lv_at hl 2 rfl) ?_
      refine lv_lload hx hb d_MO_reckon_234 (lv_at hl 3 rfl) ?_
      refine f_calli hI (f_runV C hI (c_MO_holds l G h1 _ x nf lot 4 day on fl fk fd fw fv mf1 g_x hFc bl31 (by decide) bd31 bo31) gm_MO_holds w_1028 p_MO_holds w_1026 g_x rfl rfl rfl hl.1 rfl (Nat.le_of_ble_eq_true rfl) ⟨Nat.le_of_ble_eq_true rfl, Nat.le_of_ble_eq_true rfl⟩ d_MO_reckon_236 ⟨Nat.le_of_ble_eq_true rfl, Nat.le_of_ble_eq_true rfl⟩) (fun r_36 h8 H9 locs hp9 hX9 hz9 hI => ?_)
      obtain ⟨rfl, e9⟩ := hp9
      rw [e9] at hI
      clear hX9 e9
      refine lv_istore (lv' := [(18, .int (bI (hk fl fk fd fw lot 4 day on nf))), (0, .ref x), (1, .int (nI lot)), (2, .long (lN day)), (4, .long (lN on)), (6, .int (nI e1)), (7, .long (lN g)), (11, .long (lN li)), (13, .int (nI rate)), (14, .int (oN (ff (fp rr e1 1 g 0) 0 (rm e1)))), (15, .int (bI (hk fl fk fd fw lot 3 day on nf))), (16, .long (lN pay))]) hx hb d_MO_reckon_239 hl (by decide) rfl (fun ls hl => ?_)
      refine lv_aload_n hx hb d_MO_reckon_241 rfl (lv_at hl 1 rfl) ?_
      refine lv_iload hx hb d_MO_reckon_242 (lv_at hl 5 rfl) ?_
      refine lv_iconst (v := 2) hx hb d_MO_reckon_244 (by decide) ?_
      refine lv_lload hx hb d_MO_reckon_245 (lv_at hl 6 rfl) ?_
      refine lv_lconst (v := 0) hx hb d_MO_reckon_247 (by decide) ?_
      refine f_calli hI (f_runV C hI (c_MO_find l G h1 _ x e1 2 g 0 mf1 g_x ne ef rr rm hEd (by omega) (by omega) (by omega) (by omega)) gm_MO_find w_1032 p_MO_find w_1030 g_x rfl rfl rfl hl.1 rfl (Nat.le_of_ble_eq_true rfl) ⟨Nat.le_of_ble_eq_true rfl, Nat.le_of_ble_eq_true rfl⟩ d_MO_reckon_248 ⟨Nat.le_of_ble_eq_true rfl, Nat.le_of_ble_eq_true rfl⟩) (fun r_37 h8 H9 locs hp9 hX9 hz9 hI => ?_)
      obtain ⟨rfl, e9⟩ := hp9
      rw [e9] at hI
      clear hX9 e9
      rw [eS]
      refine lv_istore (lv' := [(19, .int (-1)), (18, .int (bI (hk fl fk fd fw lot 4 day on nf))), (0, .ref x), (1, .int (nI lot)), (2, .long (lN day)), (4, .long (lN on)), (6, .int (nI e1)), (7, .long (lN g)), (11, .long (lN li)), (13, .int (nI rate)), (14, .int (oN (ff (fp rr e1 1 g 0) 0 (rm e1)))), (15, .int (bI (hk fl fk fd fw lot 3 day on nf))), (16, .long (lN pay))]) hx hb d_MO_reckon_251 hl (by decide) rfl (fun ls hl => ?_)
      refine lv_iload hx hb d_MO_reckon_253 (lv_at hl 1 rfl) ?_
      refine lv_iconst (v := (-1)) hx hb d_MO_reckon_255 (by decide) ?_
      refine lv_icmp_eq (tgt := 323) hx hb d_MO_reckon_256 (by decide) (fun c_38 => ?_) (fun c_38 => ?_)
      · skip
        exact JC e1 g li rate pay be bg bli bpay _ mf1 (L, 0, ce) _ _ g_x hFc hEd hSd9 hm1 hF hX hI (hrk.trans (by rw [hs])) ⟨by dsimp only; omega, by dsimp only; omega, by dsimp only; omega, hb5⟩ ls (lv_sub hl [2, 3, 4, 5, 6, 7, 8, 9, 10, 11, 12] rfl)
      · skip
        refine lv_iload hx hb d_MO_reckon_259 (lv_at hl 0 rfl) ?_
        refine lv_iconst (v := (-1)) hx hb d_MO_reckon_261 (by decide) ?_
        refine lv_icmp_eq (tgt := 323) hx hb d_MO_reckon_262 (by decide) (fun c_39 => ?_) (fun c_39 => absurd rfl c_39)
        exact JC e1 g li rate pay be bg bli bpay _ mf1 (L, 0, ce) _ _ g_x hFc hEd hSd9 hm1 hF hX hI (hrk.trans (by rw [hs])) ⟨by dsimp only; omega, by dsimp only; omega, by dsimp only; omega, hb5⟩ ls (lv_sub hl [2, 3, 4, 5, 6, 7, 8, 9, 10, 11, 12] rfl)
    · skip
      obtain ⟨-, r2, r3⟩ := ff_in eS
      have hkr := fp_k r3
      have hokr := brk e1 r be (by omega)
      have hrm := brm e1
      rcases hk_ix (fl := fl) (fk := fk) (fd := fd) (fw := fw) (lot := lot) (kind := 4) (day := day) (on := on) nf with e4 | ⟨i4, hi4, e4, hh4⟩
      · have hs : sB li pay ((mK nf fl fk fd fw fv lot day on) 4) (mF rr rm e1 2 g 0) (mV rr e1) (L, 0, ce) = (L, 0, ce) := by unfold sB; rw [show (mK nf fl fk fd fw fv lot day on) 4 = none by show kv fv (hk fl fk fd fw lot 4 day on nf) = _; rw [e4]; rfl]
        refine lv_aload_n hx hb d_MO_reckon_230 rfl (lv_at hl 0 rfl) ?_
        refine lv_iload_n hx hb d_MO_reckon_231 rfl (lv_at hl 1 rfl) ?_
        refine lv_iconst (v := 4) hx hb d_MO_reckon_232 (by decide) ?_
        refine lv_lload_n hx hb d_MO_reckon_233 rfl (lv_at hl 2 rfl) ?_
        refine lv_lload hx hb d_MO_reckon_234 (lv_at hl 3 rfl) ?_
        refine f_calli hI (f_runV C hI (c_MO_holds l G h1 _ x nf lot 4 day on fl fk fd fw fv mf1 g_x hFc bl31 (by decide) bd31 bo31) gm_MO_holds w_1028 p_MO_holds w_1026 g_x rfl rfl rfl hl.1 rfl (Nat.le_of_ble_eq_true rfl) ⟨Nat.le_of_ble_eq_true rfl, Nat.le_of_ble_eq_true rfl⟩ d_MO_reckon_236 ⟨Nat.le_of_ble_eq_true rfl, Nat.le_of_ble_eq_true rfl⟩) (fun r_40 h8 H9 locs hp9 hX9 hz9 hI => ?_)
        obtain ⟨rfl, e9⟩ := hp9
        rw [e9] at hI
        clear hX9 e9
        rw [e4, bI_0]
        refine lv_istore (lv' := [(18, .int (-1)), (0, .ref x), (1, .int (nI lot)), (2, .long (lN day)), (4, .long (lN on)), (6, .int (nI e1)), (7, .long (lN g)), (11, .long (lN li)), (13, .int (nI rate)), (14, .int (oN (ff (fp rr e1 1 g 0) 0 (rm e1)))), (15, .int (bI (hk fl fk fd fw lot 3 day on nf))), (16, .long (lN pay))]) hx hb d_MO_reckon_239 hl (by decide) rfl (fun ls hl => ?_)
        refine lv_aload_n hx hb d_MO_reckon_241 rfl (lv_at hl 1 rfl) ?_
        refine lv_iload hx hb d_MO_reckon_242 (lv_at hl 5 rfl) ?_
        refine lv_iconst (v := 2) hx hb d_MO_reckon_244 (by decide) ?_
        refine lv_lload hx hb d_MO_reckon_245 (lv_at hl 6 rfl) ?_
        refine lv_lconst (v := 0) hx hb d_MO_reckon_247 (by decide) ?_
        refine f_calli hI (f_runV C hI (c_MO_find l G h1 _ x e1 2 g 0 mf1 g_x ne ef rr rm hEd (by omega) (by omega) (by omega) (by omega)) gm_MO_find w_1032 p_MO_find w_1030 g_x rfl rfl rfl hl.1 rfl (Nat.le_of_ble_eq_true rfl) ⟨Nat.le_of_ble_eq_true rfl, Nat.le_of_ble_eq_true rfl⟩ d_MO_reckon_248 ⟨Nat.le_of_ble_eq_true rfl, Nat.le_of_ble_eq_true rfl⟩) (fun r_41 h8 H9 locs hp9 hX9 hz9 hI => ?_)
        obtain ⟨rfl, e9⟩ := hp9
        rw [e9] at hI
        clear hX9 e9
        rw [eS]
        refine lv_istore (lv' := [(19, .int (nI r)), (18, .int (-1)), (0, .ref x), (1, .int (nI lot)), (2, .long (lN day)), (4, .long (lN on)), (6, .int (nI e1)), (7, .long (lN g)), (11, .long (lN li)), (13, .int (nI rate)), (14, .int (oN (ff (fp rr e1 1 g 0) 0 (rm e1)))), (15, .int (bI (hk fl fk fd fw lot 3 day on nf))), (16, .long (lN pay))]) hx hb d_MO_reckon_251 hl (by decide) rfl (fun ls hl => ?_)
        refine lv_iload hx hb d_MO_reckon_253 (lv_at hl 1 rfl) ?_
        refine lv_iconst (v := (-1)) hx hb d_MO_reckon_255 (by decide) ?_
        refine lv_icmp_eq (tgt := 323) hx hb d_MO_reckon_256 (by decide) (fun c_42 => ?_) (fun c_42 => absurd rfl c_42)
        exact JC e1 g li rate pay be bg bli bpay _ mf1 (L, 0, ce) _ _ g_x hFc hEd hSd9 hm1 hF hX hI (hrk.trans (by rw [hs])) ⟨by dsimp only; omega, by dsimp only; omega, by dsimp only; omega, hb5⟩ ls (lv_sub hl [2, 3, 4, 5, 6, 7, 8, 9, 10, 11, 12] rfl)
      · have hK4 : (mK nf fl fk fd fw fv lot day on) 4 = some (fv i4) := by show kv fv (hk fl fk fd fw lot 4 day on nf) = _; rw [e4]; exact kv_k (by omega)
        have hv := hokr.2.2.2.2.1 hkr
        have hfv := bfv i4
        have hlv : li * rr ((e1 * 40 + r) * 5 + 2) ≤ 1000000 * 100 := mulle bli hv
        have ha0 : li * rr ((e1 * 40 + r) * 5 + 2) ≤ li * 100 := Nat.mul_le_mul_left _ hv
        have ha1 : min (fv i4 * 100) (li * (rr ((e1 * 40 + r) * 5 + 2))) ≤ li * rr ((e1 * 40 + r) * 5 + 2) := Nat.min_le_right _ _
        have ha2 : min (fv i4 * 100) (li * (rr ((e1 * 40 + r) * 5 + 2))) * pay ≤ (li * 100) * pay := Nat.mul_le_mul_right _ (by omega)
        have ha3 : li * 100 * pay = li * pay * 100 := Nat.mul_right_comm li 100 pay
        have ha4 : (li * 100 - min (fv i4 * 100) (li * (rr ((e1 * 40 + r) * 5 + 2)))) * pay * 10000 = li * pay * 1000000 - min (fv i4 * 100) (li * (rr ((e1 * 40 + r) * 5 + 2))) * pay * 10000 := by rw [Nat.sub_mul]; omega
        refine lv_aload_n hx hb d_MO_reckon_230 rfl (lv_at hl 0 rfl) ?_
        refine lv_iload_n hx hb d_MO_reckon_231 rfl (lv_at hl 1 rfl) ?_
        refine lv_iconst (v := 4) hx hb d_MO_reckon_232 (by decide) ?_
        refine lv_lload_n hx hb d_MO_reckon_233 rfl (lv_at hl 2 rfl) ?_
        refine lv_lload hx hb d_MO_reckon_234 (lv_at hl 3 rfl) ?_
        refine f_calli hI (f_runV C hI (c_MO_holds l G h1 _ x nf lot 4 day on fl fk fd fw fv mf1 g_x hFc bl31 (by decide) bd31 bo31) gm_MO_holds w_1028 p_MO_holds w_1026 g_x rfl rfl rfl hl.1 rfl (Nat.le_of_ble_eq_true rfl) ⟨Nat.le_of_ble_eq_true rfl, Nat.le_of_ble_eq_true rfl⟩ d_MO_reckon_236 ⟨Nat.le_of_ble_eq_true rfl, Nat.le_of_ble_eq_true rfl⟩) (fun r_43 h8 H9 locs hp9 hX9 hz9 hI => ?_)
        obtain ⟨rfl, e9⟩ := hp9
        rw [e9] at hI
        clear hX9 e9
        rw [e4, bI_k (by omega)]
        refine lv_istore (lv' := [(18, .int (nI i4)), (0, .ref x), (1, .int (nI lot)), (2, .long (lN day)), (4, .long (lN on)), (6, .int (nI e1)), (7, .long (lN g)), (11, .long (lN li)), (13, .int (nI rate)), (14, .int (oN (ff (fp rr e1 1 g 0) 0 (rm e1)))), (15, .int (bI (hk fl fk fd fw lot 3 day on nf))), (16, .long (lN pay))]) hx hb d_MO_reckon_239 hl (by decide) rfl (fun ls hl => ?_)
        refine lv_aload_n hx hb d_MO_reckon_241 rfl (lv_at hl 1 rfl) ?_
        refine lv_iload hx hb d_MO_reckon_242 (lv_at hl 5 rfl) ?_
        refine lv_iconst (v := 2) hx hb d_MO_reckon_244 (by decide) ?_
        refine lv_lload hx hb d_MO_reckon_245 (lv_at hl 6 rfl) ?_
        refine lv_lconst (v := 0) hx hb d_MO_reckon_247 (by decide) ?_
        refine f_calli hI (f_runV C hI (c_MO_find l G h1 _ x e1 2 g 0 mf1 g_x ne ef rr rm hEd (by omega) (by omega) (by omega) (by omega)) gm_MO_find w_1032 p_MO_find w_1030 g_x rfl rfl rfl hl.1 rfl (Nat.le_of_ble_eq_true rfl) ⟨Nat.le_of_ble_eq_true rfl, Nat.le_of_ble_eq_true rfl⟩ d_MO_reckon_248 ⟨Nat.le_of_ble_eq_true rfl, Nat.le_of_ble_eq_true rfl⟩) (fun r_44 h8 H9 locs hp9 hX9 hz9 hI => ?_)
        obtain ⟨rfl, e9⟩ := hp9
        rw [e9] at hI
        clear hX9 e9
        rw [eS]
        refine lv_istore (lv' := [(19, .int (nI r)), (18, .int (nI i4)), (0, .ref x), (1, .int (nI lot)), (2, .long (lN day)), (4, .long (lN on)), (6, .int (nI e1)), (7, .long (lN g)), (11, .long (lN li)), (13, .int (nI rate)), (14, .int (oN (ff (fp rr e1 1 g 0) 0 (rm e1)))), (15, .int (bI (hk fl fk fd fw lot 3 day on nf))), (16, .long (lN pay))]) hx hb d_MO_reckon_251 hl (by decide) rfl (fun ls hl => ?_)
        refine lv_iload hx hb d_MO_reckon_253 (lv_at hl 1 rfl) ?_
        refine lv_iconst (v := (-1)) hx hb d_MO_reckon_255 (by decide) ?_
        refine lv_icmp_eq (tgt := 323) hx hb d_MO_reckon_256 (by decide) (fun c_45 => absurd c_45 (n_m1 (by omega))) (fun c_45 => ?_)
        refine lv_iload hx hb d_MO_reckon_259 (lv_at hl 0 rfl) ?_
        refine lv_iconst (v := (-1)) hx hb d_MO_reckon_261 (by decide) ?_
        refine lv_icmp_eq (tgt := 323) hx hb d_MO_reckon_262 (by decide) (fun c_46 => absurd c_46 (n_m1 (by omega))) (fun c_46 => ?_)
        refine lv_aload_n hx hb d_MO_reckon_265 rfl (lv_at hl 2 rfl) ?_
        refine lv_aload_n hx hb d_MO_reckon_266 rfl (lv_at hl 2 rfl) ?_
        refine f_get (C := "DutyRulesModel") (T := T_MO) (N := 40) hx hb (fun w q => hT w (s_MO w q)) hown hK hI g_x rfl 11 (by decide) (hT _ w_820) (fun _ q => q) (mo_get (by decide) v_11) d_MO_reckon_267 ?_
        refine lv_iload hx hb d_MO_reckon_270 (lv_at hl 1 rfl) ?_
        refine f_laldn (k := i4) (v := (lN (fv i4))) hx hb hI g_a11 (fT.ofK hK (t0 := 1) rfl) (by omega) (by omega) rfl d_MO_reckon_272 ?_
        refine lv_ldc2 (v := 100) hx hb hown (hT _ w_1001) d_MO_reckon_273 ?_
        refine lv_lmul hx hb d_MO_reckon_276 ?_
        refine f_asl (lN_mul (fv i4) 100) ?_
        refine lv_lload hx hb d_MO_reckon_277 (lv_at hl 8 rfl) ?_
        refine lv_aload_n hx hb d_MO_reckon_279 rfl (lv_at hl 2 rfl) ?_
        refine lv_iload hx hb d_MO_reckon_280 (lv_at hl 6 rfl) ?_
        refine lv_iload hx hb d_MO_reckon_282 (lv_at hl 0 rfl) ?_
        refine lv_iconst (v := 2) hx hb d_MO_reckon_284 (by decide) ?_
        refine f_calli hI (f_runV C hI (c_MO_value l G h1 _ x e1 r 2 mf1 g_x ne ef rr rm hEd (by omega) (by omega) (by omega)) gm_MO_value w_1036 p_MO_value w_1034 g_x rfl rfl rfl hl.1 rfl (Nat.le_of_ble_eq_true rfl) ⟨Nat.le_of_ble_eq_true rfl, Nat.le_of_ble_eq_true rfl⟩ d_MO_reckon_285 ⟨Nat.le_of_ble_eq_true rfl, Nat.le_of_ble_eq_true rfl⟩) (fun r_47 h8 H9 locs hp9 hX9 hz9 hI => ?_)
        obtain ⟨rfl, e9⟩ := hp9
        rw [e9] at hI
        clear hX9 e9
        refine lv_i2l (v := lN (rr ((e1 * 40 + r) * 5 + 2))) hx hb d_MO_reckon_288 (n_i2l (by have := brr ((e1 * 40 + r) * 5 + 2); omega)) ?_
        refine lv_lmul hx hb d_MO_reckon_289 ?_
        refine f_asl (lN_mul li (rr ((e1 * 40 + r) * 5 + 2))) ?_
        refine f_calll hI (f_runS C hI (c_MO_least l G h1 _ (lN ((fv i4) * 100)) (lN (li * (rr ((e1 * 40 + r) * 5 + 2))))) gm_MO_least w_1044 w_1043 rfl hl.1 rfl (Nat.le_of_ble_eq_true rfl) ⟨Nat.le_of_ble_eq_true rfl, Nat.le_of_ble_eq_true rfl⟩ d_MO_reckon_290 ⟨Nat.le_of_ble_eq_true rfl, Nat.le_of_ble_eq_true rfl⟩) (fun r_48 h8 H9 locs hp9 hX9 hz9 hI => ?_)
        obtain ⟨rfl, e9⟩ := hp9
        rw [e9] at hI
        clear hX9 e9
        refine f_asl (least_min (a := fv i4 * 100) (b := li * (rr ((e1 * 40 + r) * 5 + 2))) (by omega) (by omega)) ?_
        refine f_put (C := "DutyRulesModel") (T := T_MO) (N := 40) (fs' := mo (va_up mf1 19 (.long (lN (min (fv i4 * 100) (li * (rr ((e1 * 40 + r) * 5 + 2)))))))) (v := .long (lN (min (fv i4 * 100) (li * (rr ((e1 * 40 + r) * 5 + 2)))))) hx hb (fun w q => hT w (s_MO w q)) t_MO k_MO n_MO hown hK hI g_x (by decide) rfl 19 (by decide) (hT _ w_828) (fun _ q => q) rfl rfl rfl (by rw [mo_len]; decide) (mo_set _) d_MO_reckon_293 (fun H locs hI => ?_)
        generalize emf_49 : va_up mf1 19 (.long (lN (min (fv i4 * 100) (li * (rr ((e1 * 40 + r) * 5 + 2)))))) = mf_49 at hI
        have v_11 : mf_49 11 = .ref a11 := (congrFun emf_49 11).symm.trans ((va_up_ne _ _ (by decide)).trans v_11)
        have v_14 : mf_49 14 = .int (-1) := (congrFun emf_49 14).symm.trans ((va_up_ne _ _ (by decide)).trans v_14)
        have v_15 : mf_49 15 = .ref a15 := (congrFun emf_49 15).symm.trans ((va_up_ne _ _ (by decide)).trans v_15)
        have v_16 : mf_49 16 = .ref a16 := (congrFun emf_49 16).symm.trans ((va_up_ne _ _ (by decide)).trans v_16)
        have v_17 : mf_49 17 = .ref a17 := (congrFun emf_49 17).symm.trans ((va_up_ne _ _ (by decide)).trans v_17)
        have v_18 : mf_49 18 = .int (nI L.length) := (congrFun emf_49 18).symm.trans ((va_up_ne _ _ (by decide)).trans v_18)
        have v_20 : mf_49 20 = .long (lN ce) := (congrFun emf_49 20).symm.trans ((va_up_ne _ _ (by decide)).trans v_20)
        have v_19 : mf_49 19 = .long (lN (min (fv i4 * 100) (li * (rr ((e1 * 40 + r) * 5 + 2))))) := (congrFun emf_49 19).symm.trans (va_up_self _ _ _)
        generalize eh_50 : fU h1 x (40, 0, .inr (8, mo mf_49)) = h_50 at hI
        have hX := hX.set (e := .inr (8, mo mf_49)) g_x (by decide); rw [eh_50] at hX
        have hF := hF.set (e := .inr (8, mo mf_49)) g_x (by decide); rw [eh_50] at hF
        have g_a15 : h_50 a15 = some (56, 0, .inl ((G.2.1 0), 5, .inl (fun i => nI (sl i)))) := (congrFun eh_50 a15).symm.trans (fU_keep g_a15 (f_neR g_a15 g_x (by decide)))
        have g_a16 : h_50 a16 = some (57, 0, .inl ((G.2.1 0), 5, .inl (fun i => nI (sr i)))) := (congrFun eh_50 a16).symm.trans (fU_keep g_a16 (f_neR g_a16 g_x (by decide)))
        have g_a17 : h_50 a17 = some (58, 0, .inl ((G.2.1 1), 5, .inr (.inl (fun i => lN (sc i))))) := (congrFun eh_50 a17).symm.trans (fU_keep g_a17 (f_neR g_a17 g_x (by decide)))
        have g_a11 : h_50 a11 = some (52, 0, .inl ((G.2.1 1), 300, .inr (.inl (fun i => lN (fv i))))) := (congrFun eh_50 a11).symm.trans (fU_keep g_a11 (f_neR g_a11 g_x (by decide)))
        have hW9 : fF (inR [40]) h1 h_50 := by rw [← eh_50]; exact fF.rf.set g_x (by decide)
        have g_x : h_50 x = some (40, 0, .inr (8, mo mf_49)) := (congrFun eh_50 x).symm.trans (fU_self _ _ _)
        have hFc := mFc.keep (mf' := mf_49) hFc (fun j h1 h2 => (congrFun emf_49 j).symm.trans (va_up_ne _ _ (ne_out h1 h2 (by decide)))) hW9 (by decide)
        have hEd := mEd.keep (mf' := mf_49) hEd (fun j h1 h2 => (congrFun emf_49 j).symm.trans (va_up_ne _ _ (ne_out h1 h2 (by decide)))) hW9 (by decide)
        have hm1 : ∀ j, j < 14 ∨ 20 < j → mf_49 j = mf j := fun j hj => (congrFun emf_49 j).symm.trans ((va_up_ne _ _ (ne_rng hj (by decide))).trans (hm1 j hj))
        refine lv_aload_n hx hb d_MO_reckon_296 rfl (lv_at hl 2 rfl) ?_
        refine lv_dup hx hb d_MO_reckon_297 rfl ?_
        refine f_get (C := "DutyRulesModel") (T := T_MO) (N := 40) hx hb (fun w q => hT w (s_MO w q)) hown hK hI g_x rfl 20 (by decide) (hT _ w_829) (fun _ q => q) (mo_get (by decide) v_20) d_MO_reckon_298 ?_
        refine lv_aload_n hx hb d_MO_reckon_301 rfl (lv_at hl 2 rfl) ?_
        refine f_get (C := "DutyRulesModel") (T := T_MO) (N := 40) hx hb (fun w q => hT w (s_MO w q)) hown hK hI g_x rfl 19 (by decide) (hT _ w_828) (fun _ q => q) (mo_get (by decide) v_19) d_MO_reckon_302 ?_
        refine lv_lload hx hb d_MO_reckon_305 (lv_at hl 12 rfl) ?_
        refine lv_lmul hx hb d_MO_reckon_307 ?_
        refine f_asl (lN_mul (min (fv i4 * 100) (li * (rr ((e1 * 40 + r) * 5 + 2)))) pay) ?_
        refine lv_ldc2 (v := 10000) hx hb hown (hT _ w_1006) d_MO_reckon_308 ?_
        refine lv_lmul hx hb d_MO_reckon_311 ?_
        refine f_asl (lN_mul ((min (fv i4 * 100) (li * (rr ((e1 * 40 + r) * 5 + 2)))) * pay) 10000) ?_
        refine lv_lsub hx hb d_MO_reckon_312 ?_
        refine f_asl (lN_sub (a := ce) (b := (((min (fv i4 * 100) (li * (rr ((e1 * 40 + r) * 5 + 2)))) * pay) * 10000)) (by have := bfv i4; have := brr ((e1 * 40 + r) * 5 + 2); omega)) ?_
        refine f_put (C := "DutyRulesModel") (T := T_MO) (N := 40) (fs' := mo (va_up mf_49 20 (.long (lN (ce - (((min (fv i4 * 100) (li * (rr ((e1 * 40 + r) * 5 + 2)))) * pay) * 10000)))))) (v := .long (lN (ce - (((min (fv i4 * 100) (li * (rr ((e1 * 40 + r) * 5 + 2)))) * pay) * 10000)))) hx hb (fun w q => hT w (s_MO w q)) t_MO k_MO n_MO hown hK hI g_x (by decide) rfl 20 (by decide) (hT _ w_829) (fun _ q => q) rfl rfl rfl (by rw [mo_len]; decide) (mo_set _) d_MO_reckon_313 (fun H locs hI => ?_)
        generalize emf_51 : va_up mf_49 20 (.long (lN (ce - (((min (fv i4 * 100) (li * (rr ((e1 * 40 + r) * 5 + 2)))) * pay) * 10000)))) = mf_51 at hI
        have v_11 : mf_51 11 = .ref a11 := (congrFun emf_51 11).symm.trans ((va_up_ne _ _ (by decide)).trans v_11)
        have v_14 : mf_51 14 = .int (-1) := (congrFun emf_51 14).symm.trans ((va_up_ne _ _ (by decide)).trans v_14)
        have v_15 : mf_51 15 = .ref a15 := (congrFun emf_51 15).symm.trans ((va_up_ne _ _ (by decide)).trans v_15)
        have v_16 : mf_51 16 = .ref a16 := (congrFun emf_51 16).symm.trans ((va_up_ne _ _ (by decide)).trans v_16)
        have v_17 : mf_51 17 = .ref a17 := (congrFun emf_51 17).symm.trans ((va_up_ne _ _ (by decide)).trans v_17)
        have v_18 : mf_51 18 = .int (nI L.length) := (congrFun emf_51 18).symm.trans ((va_up_ne _ _ (by decide)).trans v_18)
        have v_19 : mf_51 19 = .long (lN (min (fv i4 * 100) (li * (rr ((e1 * 40 + r) * 5 + 2))))) := (congrFun emf_51 19).symm.trans ((va_up_ne _ _ (by decide)).trans v_19)
        have v_20 : mf_51 20 = .long (lN (ce - (((min (fv i4 * 100) (li * (rr ((e1 * 40 + r) * 5 + 2)))) * pay) * 10000))) := (congrFun emf_51 20).symm.trans (va_up_self _ _ _)
        generalize eh_52 : fU h_50 x (40, 0, .inr (8, mo mf_51)) = h_52 at hI
        have hX := hX.set (e := .inr (8, mo mf_51)) g_x (by decide); rw [eh_52] at hX
        have hF := hF.set (e := .inr (8, mo mf_51)) g_x (by decide); rw [eh_52] at hF
        have g_a15 : h_52 a15 = some (56, 0, .inl ((G.2.1 0), 5, .inl (fun i => nI (sl i)))) := (congrFun eh_52 a15).symm.trans (fU_keep g_a15 (f_neR g_a15 g_x (by decide)))
        have g_a16 : h_52 a16 = some (57, 0, .inl ((G.2.1 0), 5, .inl (fun i => nI (sr i)))) := (congrFun eh_52 a16).symm.trans (fU_keep g_a16 (f_neR g_a16 g_x (by decide)))
        have g_a17 : h_52 a17 = some (58, 0, .inl ((G.2.1 1), 5, .inr (.inl (fun i => lN (sc i))))) := (congrFun eh_52 a17).symm.trans (fU_keep g_a17 (f_neR g_a17 g_x (by decide)))
        have g_a11 : h_52 a11 = some (52, 0, .inl ((G.2.1 1), 300, .inr (.inl (fun i => lN (fv i))))) := (congrFun eh_52 a11).symm.trans (fU_keep g_a11 (f_neR g_a11 g_x (by decide)))
        have hW9 : fF (inR [40]) h_50 h_52 := by rw [← eh_52]; exact fF.rf.set g_x (by decide)
        have g_x : h_52 x = some (40, 0, .inr (8, mo mf_51)) := (congrFun eh_52 x).symm.trans (fU_self _ _ _)
        have hFc := mFc.keep (mf' := mf_51) hFc (fun j h1 h2 => (congrFun emf_51 j).symm.trans (va_up_ne _ _ (ne_out h1 h2 (by decide)))) hW9 (by decide)
        have hEd := mEd.keep (mf' := mf_51) hEd (fun j h1 h2 => (congrFun emf_51 j).symm.trans (va_up_ne _ _ (ne_out h1 h2 (by decide)))) hW9 (by decide)
        have hm1 : ∀ j, j < 14 ∨ 20 < j → mf_51 j = mf j := fun j hj => (congrFun emf_51 j).symm.trans ((va_up_ne _ _ (ne_rng hj (by decide))).trans (hm1 j hj))
        refine lv_aload_n hx hb d_MO_reckon_316 rfl (lv_at hl 2 rfl) ?_
        refine lv_iconst (v := 1) hx hb d_MO_reckon_317 (by decide) ?_
        refine lv_iload hx hb d_MO_reckon_318 (lv_at hl 0 rfl) ?_
        have hz8 := hI.2.2.2.1
        refine f_callv hI (f_runV C hI (c_MO_step l G h_52 _ x 1 r mf_51 g_x _ (L.length) sl sr sc _ _ ⟨a15, a16, a17, ⟨v_14, v_15, v_16, v_17, v_18, v_19, v_20⟩, ⟨g_a15, g_a16, g_a17⟩⟩ (by omega) (by omega)) gm_MO_step w_1040 p_MO_step w_1038 g_x rfl rfl rfl hl.1 rfl (Nat.le_of_ble_eq_true rfl) ⟨Nat.le_of_ble_eq_true rfl, Nat.le_of_ble_eq_true rfl⟩ d_MO_reckon_320 ⟨Nat.le_of_ble_eq_true rfl, Nat.le_of_ble_eq_true rfl⟩) (fun h9 H9 locs hp9 hX9 hz9 hI => ?_)
        obtain ⟨mf_54, g_x, hm9, hSt, hF9⟩ := hp9
        have hFc := hFc.keep (fun j h1 h2 => hm9 j (ne_out h1 h2 (by decide))) hF9 (by decide)
        have hEd := hEd.keep (fun j h1 h2 => hm9 j (ne_out h1 h2 (by decide))) hF9 (by decide)
        have hm1 : ∀ j, j < 14 ∨ 20 < j → mf_54 j = mf j := fun j hj => (hm9 j (ne_rng hj (by decide))).trans (hm1 j hj)
        have hF := hF.tr hF9
        have hX := fX.tr (by omega) hX hX9
        have hs : sB li pay ((mK nf fl fk fd fw fv lot day on) 4) (mF rr rm e1 2 g 0) (mV rr e1) (L, 0, ce) = (L ++ [(1, r, (ce - (((min (fv i4 * 100) (li * (rr ((e1 * 40 + r) * 5 + 2)))) * pay) * 10000)) / CT)], min (fv i4 * 100) (li * (rr ((e1 * 40 + r) * 5 + 2))), (ce - (((min (fv i4 * 100) (li * (rr ((e1 * 40 + r) * 5 + 2)))) * pay) * 10000))) := by unfold sB mF; rw [hK4, eS]; rfl
        have hSd9 : mSd G _ _ (-1) (L ++ [(1, r, (ce - (((min (fv i4 * 100) (li * (rr ((e1 * 40 + r) * 5 + 2)))) * pay) * 10000)) / CT)], (min (fv i4 * 100) (li * (rr ((e1 * 40 + r) * 5 + 2)))), (ce - (((min (fv i4 * 100) (li * (rr ((e1 * 40 + r) * 5 + 2)))) * pay) * 10000))) := ⟨va_up sl L.length 1, va_up sr L.length r, va_up sc L.length ((ce - (((min (fv i4 * 100) (li * (rr ((e1 * 40 + r) * 5 + 2)))) * pay) * 10000)) / CT), (by show mSt G _ _ _ (L ++ [_]).length _ _ _ _ _; rw [List.length_append]; exact hSt), mSd.add hq 1 r _⟩
        exact JC e1 g li rate pay be bg bli bpay _ mf_54 _ _ _ g_x hFc hEd hSd9 hm1 hF hX hI (hrk.trans (by rw [hs])) ⟨by simp only [List.length_append, List.length_cons, List.length_nil]; omega, by dsimp only; omega, by dsimp only; omega, hb5⟩ ls (lv_sub hl [2, 3, 4, 5, 6, 7, 8, 9, 10, 11, 12] rfl)
  exact JB
