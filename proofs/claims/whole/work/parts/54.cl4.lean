theorem k_goods (l : Launch) (G : gG) (h : fH) (sz R e : Nat) (rr rm : Nat → Nat) (hc : cR G h R rr rm e) (K g : Nat) (h1 : 1 ≤ K) (h2 : K < 4) (bg : g < 2 ^ 31) : cM l y_RU_firstOfGoods b_RU_firstOfGoods 4 (some .int) { frames := 1, cells := 0, slots := 0, locals := 22 } G [.ref R, .int (nI K), .int (nI g)] h sz (cQi G h sz (fun x h' => x = oN (mF rr rm e K g 0) ∧ h' = h)) := by
  obtain ⟨kf, nf, hR, hq⟩ := hc
  rw [← fq_goods hq h1 h2]
  exact c_RU_firstOfGoods l G h sz R (rm e) 7 8 9 kf nf hR K g (by omega) bg
theorem k_kind (l : Launch) (G : gG) (h : fH) (sz R e : Nat) (rr rm : Nat → Nat) (hc : cR G h R rr rm e) (K : Nat) (h1 : 4 ≤ K) (h2 : K < 6) : cM l y_RU_firstOfKind b_RU_firstOfKind 3 (some .int) { frames := 0, cells := 0, slots := 0, locals := 0 } G [.ref R, .int (nI K)] h sz (cQi G h sz (fun x h' => x = oN (mF rr rm e K 0 0) ∧ h' = h)) := by
  obtain ⟨kf, nf, hR, hq⟩ := hc
  rw [← fq_kind hq h1]
  exact c_RU_firstOfKind l G h sz R (rm e) 7 8 9 kf nf hR K (by omega)
theorem k_rate (l : Launch) (G : gG) (h : fH) (sz R e : Nat) (rr rm : Nat → Nat) (hc : cR G h R rr rm e) (g st : Nat) (bg : g < 2 ^ 31) (bst : st < 2 ^ 31) : cM l y_RU_firstRate b_RU_firstRate 4 (some .int) { frames := 1, cells := 0, slots := 0, locals := 22 } G [.ref R, .int (nI g), .int (nI st)] h sz (cQi G h sz (fun x h' => x = oN (mF rr rm e 0 g st) ∧ h' = h)) := by
  obtain ⟨kf, nf, hR, hq⟩ := hc
  rw [← fq_rate hq]
  exact c_RU_firstRate l G h sz R (rm e) 7 8 9 kf nf hR g st bg bst
theorem k_number (l : Launch) (G : gG) (h : fH) (sz R e : Nat) (rr rm : Nat → Nat) (hc : cR G h R rr rm e) (n k : Nat) (hn : n < rm e) (hk4 : k < nv (rr ((e * 40 + n) * 5))) : cM l y_RU_number b_RU_number 3 (some .int) { frames := 0, cells := 0, slots := 0, locals := 0 } G [.ref R, .int (nI n), .int (nI k)] h sz (cQi G h sz (fun x h' => x = nI (mV rr e n (k + 1)) ∧ h' = h)) := by
  obtain ⟨kf, nf, hR, hq⟩ := hc
  have e1 : nf (n * 4 + k) = mV rr e n (k + 1) := (hq n hn).2 k (by rw [(hq n hn).1]; exact hk4)
  rw [← e1]
  exact c_RU_number l G h sz R (rm e) 7 8 9 kf nf n k hR hn (by have := nv_le (rr ((e * 40 + n) * 5)); omega)
theorem gm_DU_addStep : gM y_DU_addStep b_DU_addStep 3 none 2 := ⟨w_656, w_8, ⟨by decide, by decide⟩, by decide +kernel⟩
set_option maxHeartbeats 4000000 in
set_option maxRecDepth 100000 in
/-- DU_addStep  -/
theorem c_DU_addStep (l : Launch) (G : gG) (h : fH) (sz : Nat) (X ow : Nat) (lt rs : Int32) (hv : Nat → Int32) (d : dst) (hD : cDu G h X ow lt rs hv d) (le ru : Nat) (bl : d.1.length < 5) (bce : d.2.2 < 2 ^ 63) : cM l y_DU_addStep b_DU_addStep 3 none { frames := 0, cells := 0, slots := 0, locals := 0 } G [.ref X, .int (nI le), .int (nI ru)] h sz (cQv G h sz (fun h' => cDu G h' X ow lt rs hv (d.1 ++ [(le, ru, d.2.2 / CT)], d.2.1, d.2.2) ∧ fF (inD ow) h h')) := by
  refine f_start (by decide) (Nat.le_of_ble_eq_true rfl) ?_
  intro p e s m below meth c ls C hr hsz hI hl
  obtain ⟨hx, hb, hml, hown, hnm, hlk, hT, hG, hZ⟩ := id C
  have hK := hG.1
  have hX : fX h sz h := fX.rf
  have hl : lv_has ls 3 [(0, .ref X), (1, .int (nI le)), (2, .int (nI ru))] := hl
  obtain ⟨a1, a2, a3, a4, sl, sr, sc, g_X, g_a1, g_a2, g_a3, g_a4, bdl, hq⟩ := id hD
  obtain ⟨L, fr, ce⟩ := d
  dsimp only at g_X hq bdl
  have hF : fF (inD ow) h h := fF.rf
  dsimp only at bl bce
  refine lv_aload_n hx hb d_DU_addStep_0 rfl (lv_at hl 0 rfl) ?_
  refine f_get (C := "DutyRules$Duty") (T := T_DU) (N := 9) hx hb (fun w q => hT w (s_DU w q)) hown hK hI g_X rfl 2 (by decide) (hT _ w_111) (fun _ q => q) rfl d_DU_addStep_1 ?_
  refine lv_iconst (v := 5) hx hb d_DU_addStep_4 (by decide) ?_
  refine lv_icmp_lt (tgt := 9) hx hb d_DU_addStep_5 (by decide) (fun c_1 => ?_) (fun c_1 => absurd ((n_lt (a := L.length) (b := 5) (by omega) (by omega)).mpr (by omega)) c_1)
  refine lv_aload_n hx hb d_DU_addStep_9 rfl (lv_at hl 0 rfl) ?_
  refine f_get (C := "DutyRules$Duty") (T := T_DU) (N := 9) hx hb (fun w q => hT w (s_DU w q)) hown hK hI g_X rfl 6 (by decide) (hT _ w_118) (fun _ q => q) rfl d_DU_addStep_10 ?_
  refine lv_aload_n hx hb d_DU_addStep_13 rfl (lv_at hl 0 rfl) ?_
  refine f_get (C := "DutyRules$Duty") (T := T_DU) (N := 9) hx hb (fun w q => hT w (s_DU w q)) hown hK hI g_X rfl 2 (by decide) (hT _ w_111) (fun _ q => q) rfl d_DU_addStep_14 ?_
  refine lv_iload_n hx hb d_DU_addStep_17 rfl (lv_at hl 1 rfl) ?_
  refine f_iastn (k := L.length) (f' := (fun i => nI (va_up sl L.length le i))) hx hb hI g_a2 (by decide) (fT.ofK hK (t0 := 0) rfl) (by omega) (by omega) (up_i sl L.length le) d_DU_addStep_18 (fun H locs hI => ?_)
  generalize eh_2 : fU h a2 (15, ow, .inl ((G.2.1 0), 5, .inl (fun i => nI (va_up sl L.length le i)))) = h_2 at hI
  have hX := hX.set (e := .inl ((G.2.1 0), 5, .inl (fun i => nI (va_up sl L.length le i)))) g_a2 (by decide); rw [eh_2] at hX
  have hF := hF.set (e := .inl ((G.2.1 0), 5, .inl (fun i => nI (va_up sl L.length le i)))) g_a2 ⟨by decide, by decide, rfl⟩; rw [eh_2] at hF
  have g_X : h_2 X = some (13, ow, .inr (1, [.int lt, .int rs, .int (nI L.length), .long (lN ce), .long (lN fr), .ref a1, .ref a2, .ref a3, .ref a4])) := (congrFun eh_2 X).symm.trans (fU_keep g_X (f_neR g_X g_a2 (by decide)))
  have g_a1 : h_2 a1 = some (14, ow, .inl ((G.2.1 0), 6, .inl hv)) := (congrFun eh_2 a1).symm.trans (fU_keep g_a1 (f_neR g_a1 g_a2 (by decide)))
  have g_a3 : h_2 a3 = some (16, ow, .inl ((G.2.1 0), 5, .inl (fun i => nI (sr i)))) := (congrFun eh_2 a3).symm.trans (fU_keep g_a3 (f_neR g_a3 g_a2 (by decide)))
  have g_a4 : h_2 a4 = some (17, ow, .inl ((G.2.1 1), 5, .inr (.inl (fun i => lN (sc i))))) := (congrFun eh_2 a4).symm.trans (fU_keep g_a4 (f_neR g_a4 g_a2 (by decide)))
  have g_a2 : h_2 a2 = some (15, ow, .inl ((G.2.1 0), 5, .inl (fun i => nI (va_up sl L.length le i)))) := (congrFun eh_2 a2).symm.trans (fU_self _ _ _)
  refine lv_aload_n hx hb d_DU_addStep_19 rfl (lv_at hl 0 rfl) ?_
  refine f_get (C := "DutyRules$Duty") (T := T_DU) (N := 9) hx hb (fun w q => hT w (s_DU w q)) hown hK hI g_X rfl 7 (by decide) (hT _ w_120) (fun _ q => q) rfl d_DU_addStep_20 ?_
  refine lv_aload_n hx hb d_DU_addStep_23 rfl (lv_at hl 0 rfl) ?_
  refine f_get (C := "DutyRules$Duty") (T := T_DU) (N := 9) hx hb (fun w q => hT w (s_DU w q)) hown hK hI g_X rfl 2 (by decide) (hT _ w_111) (fun _ q => q) rfl d_DU_addStep_24 ?_
  refine lv_iload_n hx hb d_DU_addStep_27 rfl (lv_at hl 2 rfl) ?_
  refine f_iastn (k := L.length) (f' := (fun i => nI (va_up sr L.length ru i))) hx hb hI g_a3 (by decide) (fT.ofK hK (t0 := 0) rfl) (by omega) (by omega) (up_i sr L.length ru) d_DU_addStep_28 (fun H locs hI => ?_)
  generalize eh_3 : fU h_2 a3 (16, ow, .inl ((G.2.1 0), 5, .inl (fun i => nI (va_up sr L.length ru i)))) = h_3 at hI
  have hX := hX.set (e := .inl ((G.2.1 0), 5, .inl (fun i => nI (va_up sr L.length ru i)))) g_a3 (by decide); rw [eh_3] at hX
  have hF := hF.set (e := .inl ((G.2.1 0), 5, .inl (fun i => nI (va_up sr L.length ru i)))) g_a3 ⟨by decide, by decide, rfl⟩; rw [eh_3] at hF
  have g_X : h_3 X = some (13, ow, .inr (1, [.int lt, .int rs, .int (nI L.length), .long (lN ce), .long (lN fr), .ref a1, .ref a2, .ref a3, .ref a4])) := (congrFun eh_3 X).symm.trans (fU_keep g_X (f_neR g_X g_a3 (by decide)))
  have g_a1 : h_3 a1 = some (14, ow, .inl ((G.2.1 0), 6, .inl hv)) := (congrFun eh_3 a1).symm.trans (fU_keep g_a1 (f_neR g_a1 g_a3 (by decide)))
  have g_a2 : h_3 a2 = some (15, ow, .inl ((G.2.1 0), 5, .inl (fun i => nI (va_up sl L.length le i)))) := (congrFun eh_3 a2).symm.trans (fU_keep g_a2 (f_neR g_a2 g_a3 (by decide)))
  have g_a4 : h_3 a4 = some (17, ow, .inl ((G.2.1 1), 5, .inr (.inl (fun i => lN (sc i))))) := (congrFun eh_3 a4).symm.trans (fU_keep g_a4 (f_neR g_a4 g_a3 (by decide)))
  have g_a3 : h_3 a3 = some (16, ow, .inl ((G.2.1 0), 5, .inl (fun i => nI (va_up sr L.length ru i)))) := (congrFun eh_3 a3).symm.trans (fU_self _ _ _)
  refine lv_aload_n hx hb d_DU_addStep_29 rfl (lv_at hl 0 rfl) ?_
  refine f_get (C := "DutyRules$Duty") (T := T_DU) (N := 9) hx hb (fun w q => hT w (s_DU w q)) hown hK hI g_X rfl 8 (by decide) (hT _ w_122) (fun _ q => q) rfl d_DU_addStep_30 ?_
  refine lv_aload_n hx hb d_DU_addStep_33 rfl (lv_at hl 0 rfl) ?_
  refine f_get (C := "DutyRules$Duty") (T := T_DU) (N := 9) hx hb (fun w q => hT w (s_DU w q)) hown hK hI g_X rfl 2 (by decide) (hT _ w_111) (fun _ q => q) rfl d_DU_addStep_34 ?_
  refine lv_aload_n hx hb d_DU_addStep_37 rfl (lv_at hl 0 rfl) ?_
  refine f_get (C := "DutyRules$Duty") (T := T_DU) (N := 9) hx hb (fun w q => hT w (s_DU w q)) hown hK hI g_X rfl 3 (by decide) (hT _ w_113) (fun _ q => q) rfl d_DU_addStep_38 ?_
  refine lv_ldc2 (v := 100000000000) hx hb hown (hT _ w_657) d_DU_addStep_41 ?_
  refine lv_ldiv hx hb d_DU_addStep_44 (l_ne0 (a := 100000000000) (by omega) (by omega)) ?_
  refine f_asl (pk_lDiv (a := ce) (b := 100000000000) (by omega) (by omega) (by omega)) ?_
  refine f_lastn (k := L.length) (f' := (fun i => lN (va_up sc L.length (ce / 100000000000) i))) hx hb hI g_a4 (by decide) (fT.ofK hK (t0 := 1) rfl) (by omega) (by omega) (up_l sc L.length (ce / 100000000000)) d_DU_addStep_45 (fun H locs hI => ?_)
  generalize eh_4 : fU h_3 a4 (17, ow, .inl ((G.2.1 1), 5, .inr (.inl (fun i => lN (va_up sc L.length (ce / 100000000000) i))))) = h_4 at hI
  have hX := hX.set (e := .inl ((G.2.1 1), 5, .inr (.inl (fun i => lN (va_up sc L.length (ce / 100000000000) i))))) g_a4 (by decide); rw [eh_4] at hX
  have hF := hF.set (e := .inl ((G.2.1 1), 5, .inr (.inl (fun i => lN (va_up sc L.length (ce / 100000000000) i))))) g_a4 ⟨by decide, by decide, rfl⟩; rw [eh_4] at hF
  have g_X : h_4 X = some (13, ow, .inr (1, [.int lt, .int rs, .int (nI L.length), .long (lN ce), .long (lN fr), .ref a1, .ref a2, .ref a3, .ref a4])) := (congrFun eh_4 X).symm.trans (fU_keep g_X (f_neR g_X g_a4 (by decide)))
  have g_a1 : h_4 a1 = some (14, ow, .inl ((G.2.1 0), 6, .inl hv)) := (congrFun eh_4 a1).symm.trans (fU_keep g_a1 (f_neR g_a1 g_a4 (by decide)))
  have g_a2 : h_4 a2 = some (15, ow, .inl ((G.2.1 0), 5, .inl (fun i => nI (va_up sl L.length le i)))) := (congrFun eh_4 a2).symm.trans (fU_keep g_a2 (f_neR g_a2 g_a4 (by decide)))
  have g_a3 : h_4 a3 = some (16, ow, .inl ((G.2.1 0), 5, .inl (fun i => nI (va_up sr L.length ru i)))) := (congrFun eh_4 a3).symm.trans (fU_keep g_a3 (f_neR g_a3 g_a4 (by decide)))
  have g_a4 : h_4 a4 = some (17, ow, .inl ((G.2.1 1), 5, .inr (.inl (fun i => lN (va_up sc L.length (ce / 100000000000) i))))) := (congrFun eh_4 a4).symm.trans (fU_self _ _ _)
  refine lv_aload_n hx hb d_DU_addStep_46 rfl (lv_at hl 0 rfl) ?_
  refine lv_dup hx hb d_DU_addStep_47 rfl ?_
  refine f_get (C := "DutyRules$Duty") (T := T_DU) (N := 9) hx hb (fun w q => hT w (s_DU w q)) hown hK hI g_X rfl 2 (by decide) (hT _ w_111) (fun _ q => q) rfl d_DU_addStep_48 ?_
  refine lv_iconst (v := 1) hx hb d_DU_addStep_51 (by decide) ?_
  refine lv_iadd hx hb d_DU_addStep_52 ?_
  refine f_asi (nI_add L.length 1) ?_
  refine f_put (C := "DutyRules$Duty") (T := T_DU) (N := 9) (fs' := [.int lt, .int rs, .int (nI (L.length + 1)), .long (lN ce), .long (lN fr), .ref a1, .ref a2, .ref a3, .ref a4]) (v := .int (nI (L.length + 1))) hx hb (fun w q => hT w (s_DU w q)) t_DU k_DU n_DU hown hK hI g_X (by decide) rfl 2 (by decide) (hT _ w_111) (fun _ q => q) rfl rfl rfl (Nat.le_of_ble_eq_true rfl) rfl d_DU_addStep_53 (fun H locs hI => ?_)
  generalize eh_5 : fU h_4 X (13, ow, .inr (1, [.int lt, .int rs, .int (nI (L.length + 1)), .long (lN ce), .long (lN fr), .ref a1, .ref a2, .ref a3, .ref a4])) = h_5 at hI
  have hX := hX.set (e := .inr (1, [.int lt, .int rs, .int (nI (L.length + 1)), .long (lN ce), .long (lN fr), .ref a1, .ref a2, .ref a3, .ref a4])) g_X (by decide); rw [eh_5] at hX
  have hF := hF.set (e := .inr (1, [.int lt, .int rs, .int (nI (L.length + 1)), .long (lN ce), .long (lN fr), .ref a1, .ref a2, .ref a3, .ref a4])) g_X ⟨by decide, by decide, rfl⟩; rw [eh_5] at hF
  have g_a1 : h_5 a1 = some (14, ow, .inl ((G.2.1 0), 6, .inl hv)) := (congrFun eh_5 a1).symm.trans (fU_keep g_a1 (f_neR g_a1 g_X (by decide)))
  have g_a2 : h_5 a2 = some (15, ow, .inl ((G.2.1 0), 5, .inl (fun i => nI (va_up sl L.length le i)))) := (congrFun eh_5 a2).symm.trans (fU_keep g_a2 (f_neR g_a2 g_X (by decide)))
  have g_a3 : h_5 a3 = some (16, ow, .inl ((G.2.1 0), 5, .inl (fun i => nI (va_up sr L.length ru i)))) := (congrFun eh_5 a3).symm.trans (fU_keep g_a3 (f_neR g_a3 g_X (by decide)))
  have g_a4 : h_5 a4 = some (17, ow, .inl ((G.2.1 1), 5, .inr (.inl (fun i => lN (va_up sc L.length (ce / 100000000000) i))))) := (congrFun eh_5 a4).symm.trans (fU_keep g_a4 (f_neR g_a4 g_X (by decide)))
  have g_X : h_5 X = some (13, ow, .inr (1, [.int lt, .int rs, .int (nI (L.length + 1)), .long (lN ce), .long (lN fr), .ref a1, .ref a2, .ref a3, .ref a4])) := (congrFun eh_5 X).symm.trans (fU_self _ _ _)
  exact f_vret C hr hI ⟨⟨a1, a2, a3, a4, va_up sl L.length le, va_up sr L.length ru, va_up sc L.length (ce / CT), by rw [List.length_append]; exact g_X, g_a1, g_a2, g_a3, g_a4, by rw [List.length_append]; exact bl, mSd.add hq le ru _⟩, hF⟩ hX (Nat.le_refl _) (Nat.le_refl _) d_DU_addStep_56
theorem gm_DU_freeLost : gM y_DU_freeLost b_DU_freeLost 7 none 2 := ⟨w_661, w_8, ⟨by decide, by decide⟩, by decide +kernel⟩
set_option maxHeartbeats 4000000 in
set_option maxRecDepth 100000 in
/-- DU_freeLost  -/
theorem c_DU_freeLost (l : Launch) (G : gG) (h : fH) (sz : Nat) (X ow : Nat) (lt rs : Int32) (hv : Nat → Int32) (d : dst) (hD : cDu G h X ow lt rs hv d) (K : Nat → Option Nat) (hK6 : ∀ k, k < 6 → hv k = oN (K k)) (R ed : Nat) (rr rm : Nat → Nat) (hc : cR G h R rr rm ed) (hok : okE rr rm ed) (g li pay : Nat) (hg : K 0 = some g) (hli : K 2 = some li) (bg : g ≤ 9) (bli : li ≤ 1000000) (bpay : pay ≤ 1000000) (bK : ∀ k v, K k = some v → v ≤ 100000000) (hd1 : d.1.length ≤ 1) (hd2 : d.2.2 = li * pay * 1000000) (hd3 : d.2.1 = 0) : cM l y_DU_freeLost b_DU_freeLost 7 none { frames := 2, cells := 0, slots := 0, locals := 45 } G [.ref X, .ref R, .long (lN pay)] h sz (cQv G h sz (fun h' => cDu G h' X ow lt rs hv (sB li pay (K 4) (mF rr rm ed 2 g 0) (mV rr ed) d) ∧ fF (inD ow) h h')) := by
  refine f_start (by decide) (Nat.le_of_ble_eq_true rfl) ?_
  intro p e s m below meth c ls C hr hsz hI hl
  obtain ⟨hx, hb, hml, hown, hnm, hlk, hT, hG, hZ⟩ := id C
  have hK := hG.1
  have hX : fX h sz h := fX.rf
  have hl : lv_has ls 7 [(0, .ref X), (1, .ref R), (2, .long (lN pay))] := hl
  obtain ⟨a1, a2, a3, a4, sl, sr, sc, g_X, g_a1, g_a2, g_a3, g_a4, bdl, hq⟩ := id hD
  obtain ⟨L, fr, ce⟩ := d
  dsimp only at g_X hq bdl
  have hF : fF (inD ow) h h := fF.rf
  dsimp only at hd1 hd2 hd3
  subst hd3
  obtain ⟨kf0, nf0, ⟨b1, b2, g_R, _⟩, _⟩ := id hc
  have hlp : li * pay ≤ 1000000 * 1000000 := mulle bli bpay
  rcases eS : mF rr rm ed 2 g 0 with _ | r
  · have hs : sB li pay (K 4) (mF rr rm ed 2 g 0) (mV rr ed) (L, 0, ce) = (L, 0, ce) := by unfold sB; rw [eS]; cases K 4 <;> rfl
    rw [eS] at hs
    refine lv_aload_n hx hb d_DU_freeLost_0 rfl (lv_at hl 1 rfl) ?_
    refine lv_iconst (v := 2) hx hb d_DU_freeLost_1 (by decide) ?_
    refine lv_aload_n hx hb d_DU_freeLost_2 rfl (lv_at hl 0 rfl) ?_
    refine f_get (C := "DutyRules$Duty") (T := T_DU) (N := 9) hx hb (fun w q => hT w (s_DU w q)) hown hK hI g_X rfl 5 (by decide) (hT _ w_117) (fun _ q => q) rfl d_DU_freeLost_3 ?_
    refine lv_iconst (v := 0) hx hb d_DU_freeLost_6 (by decide) ?_
    refine f_ialdn (k := 0) (v := (nI g)) hx hb hI g_a1 (fT.ofK hK (t0 := 0) rfl) (by omega) (by omega) ((hK6 0 (by decide)).trans (by rw [hg]; rfl)) d_DU_freeLost_7 ?_
    refine f_calli hI (f_runV C hI (k_goods l G h _ R ed rr rm hc 2 g (by decide) (by decide) (by omega)) gm_RU_firstOfGoods w_643 w_644 w_642 g_R rfl rfl rfl hl.1 rfl (Nat.le_of_ble_eq_true rfl) ⟨Nat.le_of_ble_eq_true rfl, Nat.le_of_ble_eq_true rfl⟩ d_DU_freeLost_8 ⟨Nat.le_of_ble_eq_true rfl, Nat.le_of_ble_eq_true rfl⟩) (fun r_1 h8 H9 locs hp9 hX9 hz9 hI => ?_)
    obtain ⟨rfl, e9⟩ := hp9
    rw [e9] at hI
    clear hX9 e9
    rw [eS]
    refine lv_istore (lv' := [(4, .int (-1)), (0, .ref X), (1, .ref R), (2, .long (lN pay))]) hx hb d_DU_freeLost_11 hl (by decide) rfl (fun ls hl => ?_)
    refine lv_iload hx hb d_DU_freeLost_13 (lv_at hl 0 rfl) ?_
    refine lv_iconst (v := (-1)) hx hb d_DU_freeLost_15 (by decide) ?_
    refine lv_icmp_eq (tgt := 29) hx hb d_DU_freeLost_16 (by decide) (fun c_2 => ?_) (fun c_2 => absurd rfl c_2)
    exact f_vret C hr hI ⟨by rw [hs]; exact hD, hF⟩ hX (Nat.le_refl _) (Nat.le_refl _) d_DU_freeLost_29
  · obtain ⟨hrn, hkr⟩ := mF_k eS
    have hokr := hok r hrn
    rcases e4 : K 4 with _ | v4
    · have hs : sB li pay none (some r) (mV rr ed) (L, 0, ce) = (L, 0, ce) := rfl
      refine lv_aload_n hx hb d_DU_freeLost_0 rfl (lv_at hl 1 rfl) ?_
      refine lv_iconst (v := 2) hx hb d_DU_freeLost_1 (by decide) ?_
      refine lv_aload_n hx hb d_DU_freeLost_2 rfl (lv_at hl 0 rfl) ?_
      refine f_get (C := "DutyRules$Duty") (T := T_DU) (N := 9) hx hb (fun w q => hT w (s_DU w q)) hown hK hI g_X rfl 5 (by decide) (hT _ w_117) (fun _ q => q) rfl d_DU_freeLost_3 ?_
      refine lv_iconst (v := 0) hx hb d_DU_freeLost_6 (by decide) ?_
      refine f_ialdn (k := 0) (v := (nI g)) hx hb hI g_a1 (fT.ofK hK (t0 := 0) rfl) (by omega) (by omega) ((hK6 0 (by decide)).trans (by rw [hg]; rfl)) d_DU_freeLost_7 ?_
      refine f_calli hI (f_runV C hI (k_goods l G h _ R ed rr rm hc 2 g (by decide) (by decide) (by omega)) gm_RU_firstOfGoods w_643 w_644 w_642 g_R rfl rfl rfl hl.1 rfl (Nat.le_of_ble_eq_true rfl) ⟨Nat.le_of_ble_eq_true rfl, Nat.le_of_ble_eq_true rfl⟩ d_DU_freeLost_8 ⟨Nat.le_of_ble_eq_true rfl, Nat.le_of_ble_eq_true rfl⟩) (fun r_3 h8 H9 locs hp9 hX9 hz9 hI => ?_)
      obtain ⟨rfl, e9⟩ := hp9
      rw [e9] at hI
      clear hX9 e9
      rw [eS]
      refine lv_istore (lv' := [(4, .int (nI r)), (0, .ref X), (1, .ref R), (2, .long (lN pay))]) hx hb d_DU_freeLost_11 hl (by decide) rfl (fun ls hl => ?_)
      refine lv_iload hx hb d_DU_freeLost_13 (lv_at hl 0 rfl) ?_
      refine lv_iconst (v := (-1)) hx hb d_DU_freeLost_15 (by decide) ?_
      refine lv_icmp_eq (tgt := 29) hx hb d_DU_freeLost_16 (by decide) (fun c_4 => absurd c_4 (n_m1 (by omega))) (fun c_4 => ?_)
      refine lv_aload_n hx hb d_DU_freeLost_19 rfl (lv_at hl 1 rfl) ?_
      refine f_get (C := "DutyRules$Duty") (T := T_DU) (N := 9) hx hb (fun w q => hT w (s_DU w q)) hown hK hI g_X rfl 5 (by decide) (hT _ w_117) (fun _ q => q) rfl d_DU_freeLost_20 ?_
      refine lv_iconst (v := 4) hx hb d_DU_freeLost_23 (by decide) ?_
      refine f_ialdn (k := 4) (v := (-1)) hx hb hI g_a1 (fT.ofK hK (t0 := 0) rfl) (by omega) (by omega) ((hK6 4 (by decide)).trans (by rw [e4]; rfl)) d_DU_freeLost_24 ?_
      refine lv_iconst (v := (-1)) hx hb d_DU_freeLost_25 (by decide) ?_
      refine lv_icmp_ne (tgt := 30) hx hb d_DU_freeLost_26 (by decide) (fun c_5 => absurd rfl c_5) (fun c_5 => ?_)
      exact f_vret C hr hI ⟨by rw [hs]; exact hD, hF⟩ hX (Nat.le_refl _) (Nat.le_refl _) d_DU_freeLost_29
    · have hv2 : mV rr ed r 2 ≤ 100 := hokr.2.2.2.2.1 hkr
      have hfv := bK 4 v4 e4
      have hlv : li * mV rr ed r 2 ≤ 1000000 * 100 := mulle bli hv2
      have ha0 : li * mV rr ed r 2 ≤ li * 100 := Nat.mul_le_mul_left _ hv2
      have ha1 : min (v4 * 100) (li * (mV rr ed r 2)) ≤ li * mV rr ed r 2 := Nat.min_le_right _ _
      have ha2 : min (v4 * 100) (li * (mV rr ed r 2)) * pay ≤ (li * 100) * pay := Nat.mul_le_mul_right _ (by omega)
      have ha3 : li * 100 * pay = li * pay * 100 := Nat.mul_right_comm li 100 pay
      have hs : sB li pay (some v4) (some r) (mV rr ed) (L, 0, ce) = (L ++ [(1, r, (ce - min (v4 * 100) (li * (mV rr ed r 2)) * pay * 10000) / CT)], min (v4 * 100) (li * (mV rr ed r 2)), ce - min (v4 * 100) (li * (mV rr ed r 2)) * pay * 10000) := rfl
      refine lv_aload_n hx hb d_DU_freeLost_0 rfl (lv_at hl 1 rfl) ?_
      refine lv_iconst (v := 2) hx hb d_DU_freeLost_1 (by decide) ?_
      refine lv_aload_n hx hb d_DU_freeLost_2 rfl (lv_at hl 0 rfl) ?_
      refine f_get (C := "DutyRules$Duty") (T := T_DU) (N := 9) hx hb (fun w q => hT w (s_DU w q)) hown hK hI g_X rfl 5 (by decide) (hT _ w_117) (fun _ q => q) rfl d_DU_freeLost_3 ?_
      refine lv_iconst (v := 0) hx hb d_DU_freeLost_6 (by decide) ?_
      refine f_ialdn (k := 0) (v := (nI g)) hx hb hI g_a1 (fT.ofK hK (t0 := 0) rfl) (by omega) (by omega) ((hK6 0 (by decide)).trans (by rw [hg]; rfl)) d_DU_freeLost_7 ?_
      refine f_calli hI (f_runV C hI (k_goods l G h _ R ed rr rm hc 2 g (by decide) (by decide) (by omega)) gm_RU_firstOfGoods w_643 w_644 w_642 g_R rfl rfl rfl hl.1 rfl (Nat.le_of_ble_eq_true rfl) ⟨Nat.le_of_ble_eq_true rfl, Nat.le_of_ble_eq_true rfl⟩ d_DU_freeLost_8 ⟨Nat.le_of_ble_eq_true rfl, Nat.le_of_ble_eq_true rfl⟩) (fun r_6 h8 H9 locs hp9 hX9 hz9 hI => ?_)
      obtain ⟨rfl, e9⟩ := hp9
      rw [e9] at hI
      clear hX9 e9
      rw [eS]
      refine lv_istore (lv' := [(4, .int (nI r)), (0, .ref X), (1, .ref R), (2, .long (lN pay))]) hx hb d_DU_freeLost_11 hl (by decide) rfl (fun ls hl => ?_)
      refine lv_iload hx hb d_DU_freeLost_13 (lv_at hl 0 rfl) ?_
      refine lv_iconst (v := (-1)) hx hb d_DU_freeLost_15 (by decide) ?_
      refine lv_icmp_eq (tgt := 29) hx hb d_DU_freeLost_16 (by decide) (fun c_7 => absurd c_7 (n_m1 (by omega))) (fun c_7 => ?_)
      refine lv_aload_n hx hb d_DU_freeLost_19 rfl (lv_at hl 1 rfl) ?_
      refine f_get (C := "DutyRules$Duty") (T := T_DU) (N := 9) hx hb (fun w q => hT w (s_DU w q)) hown hK hI g_X rfl 5 (by decide) (hT _ w_117) (fun _ q => q) rfl d_DU_freeLost_20 ?_
      refine lv_iconst (v := 4) hx hb d_DU_freeLost_23 (by decide) ?_
      refine f_ialdn (k := 4) (v := (nI v4)) hx hb hI g_a1 (fT.ofK hK (t0 := 0) rfl) (by omega) (by omega) ((hK6 4 (by decide)).trans (by rw [e4]; rfl)) d_DU_freeLost_24 ?_
      refine lv_iconst (v := (-1)) hx hb d_DU_freeLost_25 (by decide) ?_
      refine lv_icmp_ne (tgt := 30) hx hb d_DU_freeLost_26 (by decide) (fun c_8 => ?_) (fun c_8 => absurd c_8 (n_m1 (by omega)))
      refine lv_aload_n hx hb d_DU_freeLost_30 rfl (lv_at hl 1 rfl) ?_
      refine f_get (C := "DutyRules$Duty") (T := T_DU) (N := 9) hx hb (fun w q => hT w (s_DU w q)) hown hK hI g_X rfl 5 (by decide) (hT _ w_117) (fun _ q => q) rfl d_DU_freeLost_31 ?_
      refine lv_iconst (v := 2) hx hb d_DU_freeLost_34 (by decide) ?_
      refine f_ialdn (k := 2) (v := (nI li)) hx hb hI g_a1 (fT.ofK hK (t0 := 0) rfl) (by omega) (by omega) ((hK6 2 (by decide)).trans (by rw [hli]; rfl)) d_DU_freeLost_35 ?_
      refine lv_i2l (v := lN li) hx hb d_DU_freeLost_36 (n_i2l (by omega)) ?_
      refine lv_aload_n hx hb d_DU_freeLost_37 rfl (lv_at hl 2 rfl) ?_
      refine lv_iload hx hb d_DU_freeLost_38 (lv_at hl 0 rfl) ?_
      refine lv_iconst (v := 1) hx hb d_DU_freeLost_40 (by decide) ?_
      refine f_calli hI (f_runV C hI (k_number l G h _ R ed rr rm hc r 1 (by omega) (by rw [hkr]; decide)) gm_RU_number w_490 w_491 w_650 g_R rfl rfl rfl hl.1 rfl (Nat.le_of_ble_eq_true rfl) ⟨Nat.le_of_ble_eq_true rfl, Nat.le_of_ble_eq_true rfl⟩ d_DU_freeLost_41 ⟨Nat.le_of_ble_eq_true rfl, Nat.le_of_ble_eq_true rfl⟩) (fun r_9 h8 H9 locs hp9 hX9 hz9 hI => ?_)
      obtain ⟨rfl, e9⟩ := hp9
      rw [e9] at hI
      clear hX9 e9
      refine f_asi (show nI (mV rr ed r (1 + 1)) = nI (mV rr ed r 2) from rfl) ?_
      refine lv_i2l (v := lN (mV rr ed r 2)) hx hb d_DU_freeLost_44 (n_i2l (by omega)) ?_
      refine lv_lmul hx hb d_DU_freeLost_45 ?_
      refine f_asl (lN_mul li (mV rr ed r 2)) ?_
      refine lv_lstore (lv' := [(5, .long (lN (li * (mV rr ed r 2)))), (4, .int (nI r)), (0, .ref X), (1, .ref R), (2, .long (lN pay))]) hx hb d_DU_freeLost_46 hl (by decide) rfl (fun ls hl => ?_)
      refine lv_aload_n hx hb d_DU_freeLost_48 rfl (lv_at hl 2 rfl) ?_
      refine lv_aload_n hx hb d_DU_freeLost_49 rfl (lv_at hl 2 rfl) ?_
      refine f_get (C := "DutyRules$Duty") (T := T_DU) (N := 9) hx hb (fun w q => hT w (s_DU w q)) hown hK hI g_X rfl 5 (by decide) (hT _ w_117) (fun _ q => q) rfl d_DU_freeLost_50 ?_
      refine lv_iconst (v := 4) hx hb d_DU_freeLost_53 (by decide) ?_
      refine f_ialdn (k := 4) (v := (nI v4)) hx hb hI g_a1 (fT.ofK hK (t0 := 0) rfl) (by omega) (by omega) ((hK6 4 (by decide)).trans (by rw [e4]; rfl)) d_DU_freeLost_54 ?_
      refine lv_i2l (v := lN v4) hx hb d_DU_freeLost_55 (n_i2l (by omega)) ?_
      refine lv_ldc2 (v := 100) hx hb hown (hT _ w_651) d_DU_freeLost_56 ?_
      refine lv_lmul hx hb d_DU_freeLost_59 ?_
      refine f_asl (lN_mul v4 100) ?_
      refine lv_lload hx hb d_DU_freeLost_60 (lv_at hl 0 rfl) ?_
      refine va_mmin_long hx hb (hml.trans hl.1.symm) hown (hT _ w_662) (hT _ w_663) (hT _ w_12) (hT _ w_664) (Nat.le_of_ble_eq_true rfl) (Nat.le_of_ble_eq_true rfl) (by first | exact Nat.le_of_ble_eq_true rfl | ((try dsimp only); omega)) (by first | exact Nat.le_of_ble_eq_true rfl | ((try dsimp only); omega)) d_DU_freeLost_62 ?_
      refine f_asl (least_mn (a := v4 * 100) (b := li * (mV rr ed r 2)) (by omega) (by omega)) ?_
      refine f_put (C := "DutyRules$Duty") (T := T_DU) (N := 9) (fs' := [.int lt, .int rs, .int (nI L.length), .long (lN ce), .long (lN (min (v4 * 100) (li * (mV rr ed r 2)))), .ref a1, .ref a2, .ref a3, .ref a4]) (v := .long (lN (min (v4 * 100) (li * (mV rr ed r 2))))) hx hb (fun w q => hT w (s_DU w q)) t_DU k_DU n_DU hown hK hI g_X (by decide) rfl 4 (by decide) (hT _ w_115) (fun _ q => q) rfl rfl rfl (Nat.le_of_ble_eq_true rfl) rfl d_DU_freeLost_65 (fun H locs hI => ?_)
      generalize eh_10 : fU h X (13, ow, .inr (1, [.int lt, .int rs, .int (nI L.length), .long (lN ce), .long (lN (min (v4 * 100) (li * (mV rr ed r 2)))), .ref a1, .ref a2, .ref a3, .ref a4])) = h_10 at hI
      have hX := hX.set (e := .inr (1, [.int lt, .int rs, .int (nI L.length), .long (lN ce), .long (lN (min (v4 * 100) (li * (mV rr ed r 2)))), .ref a1, .ref a2, .ref a3, .ref a4])) g_X (by decide); rw [eh_10] at hX
      have hF := hF.set (e := .inr (1, [.int lt, .int rs, .int (nI L.length), .long (lN ce), .long (lN (min (v4 * 100) (li * (mV rr ed r 2)))), .ref a1, .ref a2, .ref a3, .ref a4])) g_X ⟨by decide, by decide, rfl⟩; rw [eh_10] at hF
      have g_a1 : h_10 a1 = some (14, ow, .inl ((G.2.1 0), 6, .inl hv)) := (congrFun eh_10 a1).symm.trans (fU_keep g_a1 (f_neR g_a1 g_X (by decide)))
      have g_a2 : h_10 a2 = some (15, ow, .inl ((G.2.1 0), 5, .inl (fun i => nI (sl i)))) := (congrFun eh_10 a2).symm.trans (fU_keep g_a2 (f_neR g_a2 g_X (by decide)))
      have g_a3 : h_10 a3 = some (16, ow, .inl ((G.2.1 0), 5, .inl (fun i => nI (sr i)))) := (congrFun eh_10 a3).symm.trans (fU_keep g_a3 (f_neR g_a3 g_X (by decide)))
      have g_a4 : h_10 a4 = some (17, ow, .inl ((G.2.1 1), 5, .inr (.inl (fun i => lN (sc i))))) := (congrFun eh_10 a4).symm.trans (fU_keep g_a4 (f_neR g_a4 g_X (by decide)))
      have g_R : h_10 R = some (7, 0, .inr (6, [.int (nI (rm ed)), .ref b1, .ref b2])) := (congrFun eh_10 R).symm.trans (fU_keep g_R (f_neR g_R g_X (by decide)))
      have g_X : h_10 X = some (13, ow, .inr (1, [.int lt, .int rs, .int (nI L.length), .long (lN ce), .long (lN (min (v4 * 100) (li * (mV rr ed r 2)))), .ref a1, .ref a2, .ref a3, .ref a4])) := (congrFun eh_10 X).symm.trans (fU_self _ _ _)
      refine lv_aload_n hx hb d_DU_freeLost_68 rfl (lv_at hl 2 rfl) ?_
      refine lv_dup hx hb d_DU_freeLost_69 rfl ?_
      refine f_get (C := "DutyRules$Duty") (T := T_DU) (N := 9) hx hb (fun w q => hT w (s_DU w q)) hown hK hI g_X rfl 3 (by decide) (hT _ w_113) (fun _ q => q) rfl d_DU_freeLost_70 ?_
      refine lv_aload_n hx hb d_DU_freeLost_73 rfl (lv_at hl 2 rfl) ?_
      refine f_get (C := "DutyRules$Duty") (T := T_DU) (N := 9) hx hb (fun w q => hT w (s_DU w q)) hown hK hI g_X rfl 4 (by decide) (hT _ w_115) (fun _ q => q) rfl d_DU_freeLost_74 ?_
      refine lv_lload_n hx hb d_DU_freeLost_77 rfl (lv_at hl 4 rfl) ?_
      refine lv_lmul hx hb d_DU_freeLost_78 ?_
      refine f_asl (lN_mul (min (v4 * 100) (li * (mV rr ed r 2))) pay) ?_
      refine lv_ldc2 (v := 10000) hx hb hown (hT _ w_652) d_DU_freeLost_79 ?_
      refine lv_lmul hx hb d_DU_freeLost_82 ?_
      refine f_asl (lN_mul ((min (v4 * 100) (li * (mV rr ed r 2))) * pay) 10000) ?_
      refine lv_lsub hx hb d_DU_freeLost_83 ?_
      refine f_asl (lN_sub (a := ce) (b := (((min (v4 * 100) (li * (mV rr ed r 2))) * pay) * 10000)) (by omega)) ?_
      refine f_put (C := "DutyRules$Duty") (T := T_DU) (N := 9) (fs' := [.int lt, .int rs, .int (nI L.length), .long (lN (ce - (((min (v4 * 100) (li * (mV rr ed r 2))) * pay) * 10000))), .long (lN (min (v4 * 100) (li * (mV rr ed r 2)))), .ref a1, .ref a2, .ref a3, .ref a4]) (v := .long (lN (ce - (((min (v4 * 100) (li * (mV rr ed r 2))) * pay) * 10000)))) hx hb (fun w q => hT w (s_DU w q)) t_DU k_DU n_DU hown hK hI g_X (by decide) rfl 3 (by decide) (hT _ w_113) (fun _ q => q) rfl rfl rfl (Nat.le_of_ble_eq_true rfl) rfl d_DU_freeLost_84 (fun H locs hI => ?_)
      generalize eh_11 : fU h_10 X (13, ow, .inr (1, [.int lt, .int rs, .int (nI L.length), .long (lN (ce - (((min (v4 * 100) (li * (mV rr ed r 2))) * pay) * 10000))), .long (lN (min (v4 * 100) (li * (mV rr ed r 2)))), .ref a1, .ref a2, .ref a3, .ref a4])) = h_11 at hI
      have hX := hX.set (e := .inr (1, [.int lt, .int rs, .int (nI L.length), .long (lN (ce - (((min (v4 * 100) (li * (mV rr ed r 2))) * pay) * 10000))), .long (lN (min (v4 * 100) (li * (mV rr ed r 2)))), .ref a1, .ref a2, .ref a3, .ref a4])) g_X (by decide); rw [eh_11] at hX
      have hF := hF.set (e := .inr (1, [.int lt, .int rs, .int (nI L.length), .long (lN (ce - (((min (v4 * 100) (li * (mV rr ed r 2))) * pay) * 10000))), .long (lN (min (v4 * 100) (li * (mV rr ed r 2)))), .ref a1, .ref a2, .ref a3, .ref a4])) g_X ⟨by decide, by decide, rfl⟩; rw [eh_11] at hF
      have g_a1 : h_11 a1 = some (14, ow, .inl ((G.2.1 0), 6, .inl hv)) := (congrFun eh_11 a1).symm.trans (fU_keep g_a1 (f_neR g_a1 g_X (by decide)))
      have g_a2 : h_11 a2 = some (15, ow, .inl ((G.2.1 0), 5, .inl (fun i => nI (sl i)))) := (congrFun eh_11 a2).symm.trans (fU_keep g_a2 (f_neR g_a2 g_X (by decide)))
      have g_a3 : h_11 a3 = some (16, ow, .inl ((G.2.1 0), 5, .inl (fun i => nI (sr i)))) := (congrFun eh_11 a3).symm.trans (fU_keep g_a3 (f_neR g_a3 g_X (by decide)))
      have g_a4 : h_11 a4 = some (17, ow, .inl ((G.2.1 1), 5, .inr (.inl (fun i => lN (sc i))))) := (congrFun eh_11 a4).symm.trans (fU_keep g_a4 (f_neR g_a4 g_X (by decide)))
      have g_R : h_11 R = some (7, 0, .inr (6, [.int (nI (rm ed)), .ref b1, .ref b2])) := (congrFun eh_11 R).symm.trans (fU_keep g_R (f_neR g_R g_X (by decide)))
      have g_X : h_11 X = some (13, ow, .inr (1, [.int lt, .int rs, .int (nI L.length), .long (lN (ce - (((min (v4 * 100) (li * (mV rr ed r 2))) * pay) * 10000))), .long (lN (min (v4 * 100) (li * (mV rr ed r 2)))), .ref a1, .ref a2, .ref a3, .ref a4])) := (congrFun eh_11 X).symm.trans (fU_self _ _ _)
      refine lv_aload_n hx hb d_DU_freeLost_87 rfl (lv_at hl 2 rfl) ?_
      refine lv_iconst (v := 1) hx hb d_DU_freeLost_88 (by decide) ?_
      refine lv_iload hx hb d_DU_freeLost_89 (lv_at hl 1 rfl) ?_
      have hzA := hI.2.2.2.1
      refine f_callv hI (f_runV C hI (c_DU_addStep l G h_11 _ X ow lt rs hv (L, min (v4 * 100) (li * (mV rr ed r 2)), ce - (((min (v4 * 100) (li * (mV rr ed r 2))) * pay) * 10000)) ⟨a1, a2, a3, a4, sl, sr, sc, g_X, g_a1, g_a2, g_a3, g_a4, bdl, hq⟩ 1 r (by dsimp only; omega) (by dsimp only; omega)) gm_DU_addStep w_655 p_DU_addStep w_653 g_X rfl rfl rfl hl.1 rfl (Nat.le_of_ble_eq_true rfl) ⟨Nat.le_of_ble_eq_true rfl, Nat.le_of_ble_eq_true rfl⟩ d_DU_freeLost_91 ⟨Nat.le_of_ble_eq_true rfl, Nat.le_of_ble_eq_true rfl⟩) (fun h9 H9 locs hp9 hX9 hz9 hI => ?_)
      obtain ⟨hD9, hF9⟩ := hp9
      have hX := fX.tr (Nat.le_trans (Nat.le_of_eq hsz.symm) hzA) hX hX9
      have hF := hF.tr hF9
      exact f_vret C hr hI ⟨by rw [hs]; exact hD9, hF⟩ hX (Nat.le_refl _) (Nat.le_refl _) d_DU_freeLost_94
theorem gm_DU_lessenByAway : gM y_DU_lessenByAway b_DU_lessenByAway 7 none 2 := ⟨w_668, w_8, ⟨by decide, by decide⟩, by decide +kernel⟩
set_option maxHeartbeats 4000000 in
set_option maxRecDepth 100000 in
/-- DU_lessenByAway  -/
theorem c_DU_lessenByAway (l : Launch) (G : gG) (h : fH) (sz : Nat) (X ow : Nat) (lt rs : Int32) (hv : Nat → Int32) (d : dst) (hD : cDu G h X ow lt rs hv d) (K : Nat → Option Nat) (hK6 : ∀ k, k < 6 → hv k = oN (K k)) (R ed : Nat) (rr rm : Nat → Nat) (hc : cR G h R rr rm ed) (hok : okE rr rm ed) (g li pay : Nat) (hg : K 0 = some g) (hli : K 2 = some li) (bg : g ≤ 9) (bli : li ≤ 1000000) (bpay : pay ≤ 1000000) (bK : ∀ k v, K k = some v → v ≤ 100000000) (hd1 : d.1.length ≤ 2) (hd2 : d.2.2 = (li * 100 - d.2.1) * pay * 10000) (hd3 : d.2.1 ≤ li * 100) : cM l y_DU_lessenByAway b_DU_lessenByAway 7 none { frames := 2, cells := 0, slots := 0, locals := 45 } G [.ref X, .ref R, .long (lN pay)] h sz (cQv G h sz (fun h' => cDu G h' X ow lt rs hv (sC li pay (K 5) (mF rr rm ed 3 g 0) (mV rr ed) d) ∧ fF (inD ow) h h')) := by
  refine f_start (by decide) (Nat.le_of_ble_eq_true rfl) ?_
  intro p e s m below meth c ls C hr hsz hI hl
  obtain ⟨hx, hb, hml, hown, hnm, hlk, hT, hG, hZ⟩ := id C
  have hK := hG.1
  have hX : fX h sz h := fX.rf
  have hl : lv_has ls 7 [(0, .ref X), (1, .ref R), (2, .long (lN pay))] := hl
  obtain ⟨a1, a2, a3, a4, sl, sr, sc, g_X, g_a1, g_a2, g_a3, g_a4, bdl, hq⟩ := id hD
  obtain ⟨L, fr, ce⟩ := d
  dsimp only at g_X hq bdl
  have hF : fF (inD ow) h h := fF.rf
  dsimp only at hd1 hd2 hd3
  obtain ⟨kf0, nf0, ⟨b1, b2, g_R, _⟩, _⟩ := id hc
  have hlp : (li * 100 - fr) * pay ≤ 100000000 * 1000000 := mulle (by omega) bpay
  rcases eS : mF rr rm ed 3 g 0 with _ | r
  · have hs : sC li pay (K 5) (mF rr rm ed 3 g 0) (mV rr ed) (L, fr, ce) = (L, fr, ce) := by unfold sC; rw [eS]; cases K 5 <;> rfl
    rw [eS] at hs
    refine lv_aload_n hx hb d_DU_lessenByAway_0 rfl (lv_at hl 1 rfl) ?_
    refine lv_iconst (v := 3) hx hb d_DU_lessenByAway_1 (by decide) ?_
    refine lv_aload_n hx hb d_DU_lessenByAway_2 rfl (lv_at hl 0 rfl) ?_
    refine f_get (C := "DutyRules$Duty") (T := T_DU) (N := 9) hx hb (fun w q => hT w (s_DU w q)) hown hK hI g_X rfl 5 (by decide) (hT _ w_117) (fun _ q => q) rfl d_DU_lessenByAway_3 ?_
    refine lv_iconst (v := 0) hx hb d_DU_lessenByAway_6 (by decide) ?_
    refine f_ialdn (k := 0) (v := (nI g)) hx hb hI g_a1 (fT.ofK hK (t0 := 0) rfl) (by omega) (by omega) ((hK6 0 (by decide)).trans (by rw [hg]; rfl)) d_DU_lessenByAway_7 ?_
    refine f_calli hI (f_runV C hI (k_goods l G h _ R ed rr rm hc 3 g (by decide) (by decide) (by omega)) gm_RU_firstOfGoods w_643 w_644 w_642 g_R rfl rfl rfl hl.1 rfl (Nat.le_of_ble_eq_true rfl) ⟨Nat.le_of_ble_eq_true rfl, Nat.le_of_ble_eq_true rfl⟩ d_DU_lessenByAway_8 ⟨Nat.le_of_ble_eq_true rfl, Nat.le_of_ble_eq_true rfl⟩) (fun r_1 h8 H9 locs hp9 hX9 hz9 hI => ?_)
    obtain ⟨rfl, e9⟩ := hp9
    rw [e9] at hI
    clear hX9 e9
    rw [eS]
    refine lv_istore (lv' := [(4, .int (-1)), (0, .ref X), (1, .ref R), (2, .long (lN pay))]) hx hb d_DU_lessenByAway_11 hl (by decide) rfl (fun ls hl => ?_)
    refine lv_iload hx hb d_DU_lessenByAway_13 (lv_at hl 0 rfl) ?_
    refine lv_iconst (v := (-1)) hx hb d_DU_lessenByAway_15 (by decide) ?_
    refine lv_icmp_eq (tgt := 29) hx hb d_DU_lessenByAway_16 (by decide) (fun c_2 => ?_) (fun c_2 => absurd rfl c_2)
    exact f_vret C hr hI ⟨by rw [hs]; exact hD, hF⟩ hX (Nat.le_refl _) (Nat.le_refl _) d_DU_lessenByAway_29
  · obtain ⟨hrn, hkr⟩ := mF_k eS
    have hokr := hok r hrn
    rcases e5 : K 5 with _ | v5
    · have hs : sC li pay none (some r) (mV rr ed) (L, fr, ce) = (L, fr, ce) := rfl
      refine lv_aload_n hx hb d_DU_lessenByAway_0 rfl (lv_at hl 1 rfl) ?_
      refine lv_iconst (v := 3) hx hb d_DU_lessenByAway_1 (by decide) ?_
      refine lv_aload_n hx hb d_DU_lessenByAway_2 rfl (lv_at hl 0 rfl) ?_
      refine f_get (C := "DutyRules$Duty") (T := T_DU) (N := 9) hx hb (fun w q => hT w (s_DU w q)) hown hK hI g_X rfl 5 (by decide) (hT _ w_117) (fun _ q => q) rfl d_DU_lessenByAway_3 ?_
      refine lv_iconst (v := 0) hx hb d_DU_lessenByAway_6 (by decide) ?_
      refine f_ialdn (k := 0) (v := (nI g)) hx hb hI g_a1 (fT.ofK hK (t0 := 0) rfl) (by omega) (by omega) ((hK6 0 (by decide)).trans (by rw [hg]; rfl)) d_DU_lessenByAway_7 ?_
      refine f_calli hI (f_runV C hI (k_goods l G h _ R ed rr rm hc 3 g (by decide) (by decide) (by omega)) gm_RU_firstOfGoods w_643 w_644 w_642 g_R rfl rfl rfl hl.1 rfl (Nat.le_of_ble_eq_true rfl) ⟨Nat.le_of_ble_eq_true rfl, Nat.le_of_ble_eq_true rfl⟩ d_DU_lessenByAway_8 ⟨Nat.le_of_ble_eq_true rfl, Nat.le_of_ble_eq_true rfl⟩) (fun r_3 h8 H9 locs hp9 hX9 hz9 hI => ?_)
      obtain ⟨rfl, e9⟩ := hp9
      rw [e9] at hI
      clear hX9 e9
      rw [eS]
      refine lv_istore (lv' := [(4, .int (nI r)), (0, .ref X), (1, .ref R), (2, .long (lN pay))]) hx hb d_DU_lessenByAway_11 hl (by decide) rfl (fun ls hl => ?_)
      refine lv_iload hx hb d_DU_lessenByAway_13 (lv_at hl 0 rfl) ?_
      refine lv_iconst (v := (-1)) hx hb d_DU_lessenByAway_15 (by decide) ?_
      refine lv_icmp_eq (tgt := 29) hx hb d_DU_lessenByAway_16 (by decide) (fun c_4 => absurd c_4 (n_m1 (by omega))) (fun c_4 => ?_)
      refine lv_aload_n hx hb d_DU_lessenByAway_19 rfl (lv_at hl 1 rfl) ?_
      refine f_get (C := "DutyRules$Duty") (T := T_DU) (N := 9) hx hb (fun w q => hT w (s_DU w q)) hown hK hI g_X rfl 5 (by decide) (hT _ w_117) (fun _ q => q) rfl d_DU_lessenByAway_20 ?_
      refine lv_iconst (v := 5) hx hb d_DU_lessenByAway_23 (by decide) ?_
      refine f_ialdn (k := 5) (v := (-1)) hx hb hI g_a1 (fT.ofK hK (t0 := 0) rfl) (by omega) (by omega) ((hK6 5 (by decide)).trans (by rw [e5]; rfl)) d_DU_lessenByAway_24 ?_
      refine lv_iconst (v := (-1)) hx hb d_DU_lessenByAway_25 (by decide) ?_
      refine lv_icmp_ne (tgt := 30) hx hb d_DU_lessenByAway_26 (by decide) (fun c_5 => absurd rfl c_5) (fun c_5 => ?_)
      exact f_vret C hr hI ⟨by rw [hs]; exact hD, hF⟩ hX (Nat.le_refl _) (Nat.le_refl _) d_DU_lessenByAway_29
    · have hv2 : mV rr ed r 2 ≤ 100 := hokr.2.2.2.2.2.1 hkr
      have hfv := bK 5 v5 e5
      have ha1 : min (v5 * 100) (li * 100 - fr) ≤ li * 100 - fr := Nat.min_le_right _ _
      have ha2 : min (v5 * 100) (li * 100 - fr) * pay ≤ (li * 100 - fr) * pay := Nat.mul_le_mul_right _ ha1
      have ha3 : min (v5 * 100) (li * 100 - fr) * pay * mV rr ed r 2 ≤ (li * 100 - fr) * pay * 100 := mulle ha2 hv2
      have hs : sC li pay (some v5) (some r) (mV rr ed) (L, fr, ce) = (L ++ [(2, r, (ce - min (v5 * 100) (li * 100 - fr) * pay * mV rr ed r 2 * 100) / CT)], fr, ce - min (v5 * 100) (li * 100 - fr) * pay * mV rr ed r 2 * 100) := rfl
      refine lv_aload_n hx hb d_DU_lessenByAway_0 rfl (lv_at hl 1 rfl) ?_
      refine lv_iconst (v := 3) hx hb d_DU_lessenByAway_1 (by decide) ?_
      refine lv_aload_n hx hb d_DU_lessenByAway_2 rfl (lv_at hl 0 rfl) ?_
      refine f_get (C := "DutyRules$Duty") (T := T_DU) (N := 9) hx hb (fun w q => hT w (s_DU w q)) hown hK hI g_X rfl 5 (by decide) (hT _ w_117) (fun _ q => q) rfl d_DU_lessenByAway_3 ?_
      refine lv_iconst (v := 0) hx hb d_DU_lessenByAway_6 (by decide) ?_
      refine f_ialdn (k := 0) (v := (nI g)) hx hb hI g_a1 (fT.ofK hK (t0 := 0) rfl) (by omega) (by omega) ((hK6 0 (by decide)).trans (by rw [hg]; rfl)) d_DU_lessenByAway_7 ?_
      refine f_calli hI (f_runV C hI (k_goods l G h _ R ed rr rm hc 3 g (by decide) (by decide) (by omega)) gm_RU_firstOfGoods w_643 w_644 w_642 g_R rfl rfl rfl hl.1 rfl (Nat.le_of_ble_eq_true rfl) ⟨Nat.le_of_ble_eq_true rfl, Nat.le_of_ble_eq_true rfl⟩ d_DU_lessenByAway_8 ⟨Nat.le_of_ble_eq_true rfl, Nat.le_of_ble_eq_true rfl⟩) (fun r_6 h8 H9 locs hp9 hX9 hz9 hI => ?_)
      obtain ⟨rfl, e9⟩ := hp9
      rw [e9] at hI
      clear hX9 e9
      rw [eS]
      refine lv_istore (lv' := [(4, .int (nI r)), (0, .ref X), (1, .ref R), (2, .long (lN pay))]) hx hb d_DU_lessenByAway_11 hl (by decide) rfl (fun ls hl => ?_)
      refine lv_iload hx hb d_DU_lessenByAway_13 (lv_at hl 0 rfl) ?_
      refine lv_iconst (v := (-1)) hx hb d_DU_lessenByAway_15 (by decide) ?_
      refine lv_icmp_eq (tgt := 29) hx hb d_DU_lessenByAway_16 (by decide) (fun c_7 => absurd c_7 (n_m1 (by omega))) (fun c_7 => ?_)
      refine lv_aload_n hx hb d_DU_lessenByAway_19 rfl (lv_at hl 1 rfl) ?_
      refine f_get (C := "DutyRules$Duty") (T := T_DU) (N := 9) hx hb (fun w q => hT w (s_DU w q)) hown hK hI g_X rfl 5 (by decide) (hT _ w_117) (fun _ q => q) rfl d_DU_lessenByAway_20 ?_
      refine lv_iconst (v := 5) hx hb d_DU_lessenByAway_23 (by decide) ?_
      refine f_ialdn (k := 5) (v := (nI v5)) hx hb hI g_a1 (fT.ofK hK (t0 := 0) rfl) (by omega) (by omega) ((hK6 5 (by decide)).trans (by rw [e5]; rfl)) d_DU_lessenByAway_24 ?_
      refine lv_iconst (v := (-1)) hx hb d_DU_lessenByAway_25 (by decide) ?_
      refine lv_icmp_ne (tgt := 30) hx hb d_DU_lessenByAway_26 (by decide) (fun c_8 => ?_) (fun c_8 => absurd c_8 (n_m1 (by omega)))
      refine lv_aload_n hx hb d_DU_lessenByAway_30 rfl (lv_at hl 1 rfl) ?_
      refine f_get (C := "DutyRules$Duty") (T := T_DU) (N := 9) hx hb (fun w q => hT w (s_DU w q)) hown hK hI g_X rfl 5 (by decide) (hT _ w_117) (fun _ q => q) rfl d_DU_lessenByAway_31 ?_
      refine lv_iconst (v := 5) hx hb d_DU_lessenByAway_34 (by decide) ?_
      refine f_ialdn (k := 5) (v := (nI v5)) hx hb hI g_a1 (fT.ofK hK (t0 := 0) rfl) (by omega) (by omega) ((hK6 5 (by decide)).trans (by rw [e5]; rfl)) d_DU_lessenByAway_35 ?_
      refine lv_i2l (v := lN v5) hx hb d_DU_lessenByAway_36 (n_i2l (by omega)) ?_
      refine lv_ldc2 (v := 100) hx hb hown (hT _ w_651) d_DU_lessenByAway_37 ?_
      refine lv_lmul hx hb d_DU_lessenByAway_40 ?_
      refine f_asl (lN_mul v5 100) ?_
      refine lv_aload_n hx hb d_DU_lessenByAway_41 rfl (lv_at hl 1 rfl) ?_
      refine f_get (C := "DutyRules$Duty") (T := T_DU) (N := 9) hx hb (fun w q => hT w (s_DU w q)) hown hK hI g_X rfl 5 (by decide) (hT _ w_117) (fun _ q => q) rfl d_DU_lessenByAway_42 ?_
      refine lv_iconst (v := 2) hx hb d_DU_lessenByAway_45 (by decide) ?_
      refine f_ialdn (k := 2) (v := (nI li)) hx hb hI g_a1 (fT.ofK hK (t0 := 0) rfl) (by omega) (by omega) ((hK6 2 (by decide)).trans (by rw [hli]; rfl)) d_DU_lessenByAway_46 ?_
      refine lv_i2l (v := lN li) hx hb d_DU_lessenByAway_47 (n_i2l (by omega)) ?_
      refine lv_ldc2 (v := 100) hx hb hown (hT _ w_651) d_DU_lessenByAway_48 ?_
      refine lv_lmul hx hb d_DU_lessenByAway_51 ?_
      refine f_asl (lN_mul li 100) ?_
      refine lv_aload_n hx hb d_DU_lessenByAway_52 rfl (lv_at hl 1 rfl) ?_
      refine f_get (C := "DutyRules$Duty") (T := T_DU) (N := 9) hx hb (fun w q => hT w (s_DU w q)) hown hK hI g_X rfl 4 (by decide) (hT _ w_115) (fun _ q => q) rfl d_DU_lessenByAway_53 ?_
      refine lv_lsub hx hb d_DU_lessenByAway_56 ?_
      refine f_asl (lN_sub (a := (li * 100)) (b := fr) (by omega)) ?_
      refine va_mmin_long hx hb (hml.trans hl.1.symm) hown (hT _ w_662) (hT _ w_663) (hT _ w_12) (hT _ w_664) (Nat.le_of_ble_eq_true rfl) (Nat.le_of_ble_eq_true rfl) (by first | exact Nat.le_of_ble_eq_true rfl | ((try dsimp only); omega)) (by first | exact Nat.le_of_ble_eq_true rfl | ((try dsimp only); omega)) d_DU_lessenByAway_57 ?_
      refine f_asl (least_mn (a := v5 * 100) (b := li * 100 - fr) (by omega) (by omega)) ?_
      refine lv_lstore (lv' := [(5, .long (lN (min (v5 * 100) (li * 100 - fr)))), (4, .int (nI r)), (0, .ref X), (1, .ref R), (2, .long (lN pay))]) hx hb d_DU_lessenByAway_60 hl (by decide) rfl (fun ls hl => ?_)
      refine lv_aload_n hx hb d_DU_lessenByAway_62 rfl (lv_at hl 2 rfl) ?_
      refine lv_dup hx hb d_DU_lessenByAway_63 rfl ?_
      refine f_get (C := "DutyRules$Duty") (T := T_DU) (N := 9) hx hb (fun w q => hT w (s_DU w q)) hown hK hI g_X rfl 3 (by decide) (hT _ w_113) (fun _ q => q) rfl d_DU_lessenByAway_64 ?_
      refine lv_lload hx hb d_DU_lessenByAway_67 (lv_at hl 0 rfl) ?_
      refine lv_lload_n hx hb d_DU_lessenByAway_69 rfl (lv_at hl 4 rfl) ?_
      refine lv_lmul hx hb d_DU_lessenByAway_70 ?_
      refine f_asl (lN_mul (min (v5 * 100) (li * 100 - fr)) pay) ?_
      refine lv_aload_n hx hb d_DU_lessenByAway_71 rfl (lv_at hl 3 rfl) ?_
      refine lv_iload hx hb d_DU_lessenByAway_72 (lv_at hl 1 rfl) ?_
      refine lv_iconst (v := 1) hx hb d_DU_lessenByAway_74 (by decide) ?_
      refine f_calli hI (f_runV C hI (k_number l G h _ R ed rr rm hc r 1 (by omega) (by rw [hkr]; decide)) gm_RU_number w_490 w_491 w_650 g_R rfl rfl rfl hl.1 rfl (Nat.le_of_ble_eq_true rfl) ⟨Nat.le_of_ble_eq_true rfl, Nat.le_of_ble_eq_true rfl⟩ d_DU_lessenByAway_75 ⟨Nat.le_of_ble_eq_true rfl, Nat.le_of_ble_eq_true rfl⟩) (fun r_9 h8 H9 locs hp9 hX9 hz9 hI => ?_)
      obtain ⟨rfl, e9⟩ := hp9
      rw [e9] at hI
      clear hX9 e9
      refine f_asi (show nI (mV rr ed r (1 + 1)) = nI (mV rr ed r 2) from rfl) ?_
      refine lv_i2l (v := lN (mV rr ed r 2)) hx hb d_DU_lessenByAway_78 (n_i2l (by omega)) ?_
      refine lv_lmul hx hb d_DU_lessenByAway_79 ?_
      refine f_asl (lN_mul ((min (v5 * 100) (li * 100 - fr)) * pay) (mV rr ed r 2)) ?_
      refine lv_ldc2 (v := 100) hx hb hown (hT _ w_651) d_DU_lessenByAway_80 ?_
      refine lv_lmul hx hb d_DU_lessenByAway_83 ?_
      refine f_asl (lN_mul (((min (v5 * 100) (li * 100 - fr)) * pay) * (mV rr ed r 2)) 100) ?_
      refine lv_lsub hx hb d_DU_lessenByAway_84 ?_
      refine f_asl (lN_sub (a := ce) (b := ((((min (v5 * 100) (li * 100 - fr)) * pay) * (mV rr ed r 2)) * 100)) (by omega)) ?_
      refine f_put (C := "DutyRules$Duty") (T := T_DU) (N := 9) (fs' := [.int lt, .int rs, .int (nI L.length), .long (lN (ce - ((((min (v5 * 100) (li * 100 - fr)) * pay) * (mV rr ed r 2)) * 100))), .long (lN fr), .ref a1, .ref a2, .ref a3, .ref a4]) (v := .long (lN (ce - ((((min (v5 * 100) (li * 100 - fr)) * pay) * (mV rr ed r 2)) * 100)))) hx hb (fun w q => hT w (s_DU w q)) t_DU k_DU n_DU hown hK hI g_X (by decide) rfl 3 (by decide) (hT _ w_113) (fun _ q => q) rfl rfl rfl (Nat.le_of_ble_eq_true rfl) rfl d_DU_lessenByAway_85 (fun H locs hI => ?_)
      generalize eh_10 : fU h X (13, ow, .inr (1, [.int lt, .int rs, .int (nI L.length), .long (lN (ce - ((((min (v5 * 100) (li * 100 - fr)) * pay) * (mV rr ed r 2)) * 100))), .long (lN fr), .ref a1, .ref a2, .ref a3, .ref a4])) = h_10 at hI
      have hX := hX.set (e := .inr (1, [.int lt, .int rs, .int (nI L.length), .long (lN (ce - ((((min (v5 * 100) (li * 100 - fr)) * pay) * (mV rr ed r 2)) * 100))), .long (lN fr), .ref a1, .ref a2, .ref a3, .ref a4])) g_X (by decide); rw [eh_10] at hX
      have hF := hF.set (e := .inr (1, [.int lt, .int rs, .int (nI L.length), .long (lN (ce - ((((min (v5 * 100) (li * 100 - fr)) * pay) * (mV rr ed r 2)) * 100))), .long (lN fr), .ref a1, .ref a2, .ref a3, .ref a4])) g_X ⟨by decide, by decide, rfl⟩; rw [eh_10] at hF
      have g_a1 : h_10 a1 = some (14, ow, .inl ((G.2.1 0), 6, .inl hv)) := (congrFun eh_10 a1).symm.trans (fU_keep g_a1 (f_neR g_a1 g_X (by decide)))
      have g_a2 : h_10 a2 = some (15, ow, .inl ((G.2.1 0), 5, .inl (fun i => nI (sl i)))) := (congrFun eh_10 a2).symm.trans (fU_keep g_a2 (f_neR g_a2 g_X (by decide)))
      have g_a3 : h_10 a3 = some (16, ow, .inl ((G.2.1 0), 5, .inl (fun i => nI (sr i)))) := (congrFun eh_10 a3).symm.trans (fU_keep g_a3 (f_neR g_a3 g_X (by decide)))
      have g_a4 : h_10 a4 = some (17, ow, .inl ((G.2.1 1), 5, .inr (.inl (fun i => lN (sc i))))) := (congrFun eh_10 a4).symm.trans (fU_keep g_a4 (f_neR g_a4 g_X (by decide)))
      have g_R : h_10 R = some (7, 0, .inr (6, [.int (nI (rm ed)), .ref b1, .ref b2])) := (congrFun eh_10 R).symm.trans (fU_keep g_R (f_neR g_R g_X (by decide)))
      have g_X : h_10 X = some (13, ow, .inr (1, [.int lt, .int rs, .int (nI L.length), .long (lN (ce - ((((min (v5 * 100) (li * 100 - fr)) * pay) * (mV rr ed r 2)) * 100))), .long (lN fr), .ref a1, .ref a2, .ref a3, .ref a4])) := (congrFun eh_10 X).symm.trans (fU_self _ _ _)
      refine lv_aload_n hx hb d_DU_lessenByAway_88 rfl (lv_at hl 2 rfl) ?_
      refine lv_iconst (v := 2) hx hb d_DU_lessenByAway_89 (by decide) ?_
      refine lv_iload hx hb d_DU_lessenByAway_90 (lv_at hl 1 rfl) ?_
      have hzA := hI.2.2.2.1
      refine f_callv hI (f_runV C hI (c_DU_addStep l G h_10 _ X ow lt rs hv (L, fr, ce - ((((min (v5 * 100) (li * 100 - fr)) * pay) * (mV rr ed r 2)) * 100)) ⟨a1, a2, a3, a4, sl, sr, sc, g_X, g_a1, g_a2, g_a3, g_a4, bdl, hq⟩ 2 r (by dsimp only; omega) (by dsimp only; omega)) gm_DU_addStep w_655 p_DU_addStep w_653 g_X rfl rfl rfl hl.1 rfl (Nat.le_of_ble_eq_true rfl) ⟨Nat.le_of_ble_eq_true rfl, Nat.le_of_ble_eq_true rfl⟩ d_DU_lessenByAway_92 ⟨Nat.le_of_ble_eq_true rfl, Nat.le_of_ble_eq_true rfl⟩) (fun h9 H9 locs hp9 hX9 hz9 hI => ?_)
      obtain ⟨hD9, hF9⟩ := hp9
      have hX := fX.tr (Nat.le_trans (Nat.le_of_eq hsz.symm) hzA) hX hX9
      have hF := hF.tr hF9
      exact f_vret C hr hI ⟨by rw [hs]; exact hD9, hF⟩ hX (Nat.le_refl _) (Nat.le_refl _) d_DU_lessenByAway_95
theorem gm_DU_lessenForSmall : gM y_DU_lessenForSmall b_DU_lessenForSmall 3 none 1 := ⟨w_672, w_8, ⟨by decide, by decide⟩, by decide +kernel⟩
set_option maxHeartbeats 4000000 in
set_option maxRecDepth 100000 in
/-- DU_lessenForSmall  -/
theorem c_DU_lessenForSmall (l : Launch) (G : gG) (h : fH) (sz : Nat) (X ow : Nat) (lt rs : Int32) (hv : Nat → Int32) (d : dst) (hD : cDu G h X ow lt rs hv d) (K : Nat → Option Nat) (hK6 : ∀ k, k < 6 → hv k = oN (K k)) (R ed : Nat) (rr rm : Nat → Nat) (hc : cR G h R rr rm ed) (hok : okE rr rm ed) (g : Nat) (hg : K 0 = some g) (bg : g ≤ 9) (bK : ∀ k v, K k = some v → v ≤ 100000000) (hd1 : d.1.length ≤ 3) (hd2 : d.2.2 ≤ 1000000000000000000) (hn3 : ¬ ((mF rr rm ed 1 g 0).isSome = true ∧ (K 3).isNone = true)) : cM l y_DU_lessenForSmall b_DU_lessenForSmall 3 none { frames := 2, cells := 0, slots := 0, locals := 45 } G [.ref X, .ref R] h sz (cQv G h sz (fun h' => cDu G h' X ow lt rs hv (sD (mF rr rm ed 1 g 0) (K 3) (mV rr ed) d) ∧ fF (inD ow) h h')) := by
  refine f_start (by decide) (Nat.le_of_ble_eq_true rfl) ?_
  intro p e s m below meth c ls C hr hsz hI hl
  obtain ⟨hx, hb, hml, hown, hnm, hlk, hT, hG, hZ⟩ := id C
  have hK := hG.1
  have hX : fX h sz h := fX.rf
  have hl : lv_has ls 3 [(0, .ref X), (1, .ref R)] := hl
  obtain ⟨a1, a2, a3, a4, sl, sr, sc, g_X, g_a1, g_a2, g_a3, g_a4, bdl, hq⟩ := id hD
  obtain ⟨L, fr, ce⟩ := d
  dsimp only at g_X hq bdl
  have hF : fF (inD ow) h h := fF.rf
  dsimp only at hd1 hd2
  obtain ⟨kf0, nf0, ⟨b1, b2, g_R, _⟩, _⟩ := id hc
  rcases eS : mF rr rm ed 1 g 0 with _ | r
  · have hs : sD none (K 3) (mV rr ed) (L, fr, ce) = (L, fr, ce) := rfl
    refine lv_aload_n hx hb d_DU_lessenForSmall_0 rfl (lv_at hl 1 rfl) ?_
    refine lv_iconst (v := 1) hx hb d_DU_lessenForSmall_1 (by decide) ?_
    refine lv_aload_n hx hb d_DU_lessenForSmall_2 rfl (lv_at hl 0 rfl) ?_
    refine f_get (C := "DutyRules$Duty") (T := T_DU) (N := 9) hx hb (fun w q => hT w (s_DU w q)) hown hK hI g_X rfl 5 (by decide) (hT _ w_117) (fun _ q => q) rfl d_DU_lessenForSmall_3 ?_
    refine lv_iconst (v := 0) hx hb d_DU_lessenForSmall_6 (by decide) ?_
    refine f_ialdn (k := 0) (v := (nI g)) hx hb hI g_a1 (fT.ofK hK (t0 := 0) rfl) (by omega) (by omega) ((hK6 0 (by decide)).trans (by rw [hg]; rfl)) d_DU_lessenForSmall_7 ?_
    refine f_calli hI (f_runV C hI (k_goods l G h _ R ed rr rm hc 1 g (by decide) (by decide) (by omega)) gm_RU_firstOfGoods w_643 w_644 w_642 g_R rfl rfl rfl hl.1 rfl (Nat.le_of_ble_eq_true rfl) ⟨Nat.le_of_ble_eq_true rfl, Nat.le_of_ble_eq_true rfl⟩ d_DU_lessenForSmall_8 ⟨Nat.le_of_ble_eq_true rfl, Nat.le_of_ble_eq_true rfl⟩) (fun r_1 h8 H9 locs hp9 hX9 hz9 hI => ?_)
    obtain ⟨rfl, e9⟩ := hp9
    rw [e9] at hI
    clear hX9 e9
    rw [eS]
    refine lv_istore_n (lv' := [(2, .int (-1)), (0, .ref X), (1, .ref R)]) hx hb d_DU_lessenForSmall_11 rfl hl (by decide) rfl (fun ls hl => ?_)
    refine lv_iload_n hx hb d_DU_lessenForSmall_12 rfl (lv_at hl 0 rfl) ?_
    refine lv_iconst (v := (-1)) hx hb d_DU_lessenForSmall_13 (by decide) ?_
    refine lv_icmp_eq (tgt := 32) hx hb d_DU_lessenForSmall_14 (by decide) (fun c_2 => ?_) (fun c_2 => absurd rfl c_2)
    exact f_vret C hr hI ⟨by rw [hs]; exact hD, hF⟩ hX (Nat.le_refl _) (Nat.le_refl _) d_DU_lessenForSmall_32
  · obtain ⟨hrn, hkr⟩ := mF_k eS
    have hokr := hok r hrn
    rcases e3 : K 3 with _ | v3
    · exact absurd ⟨by rw [eS]; rfl, by rw [e3]; rfl⟩ hn3
    · have hv2 := hokr.2.2.2.1 hkr
      have hv2a : mV rr ed r 2 ≤ 100000000 := hv2.1
      have hv3a : mV rr ed r 3 ≤ 100 := hv2.2
      have hfv := bK 3 v3 e3
      have hc9 : ce / 100 * mV rr ed r 3 ≤ ce / 100 * 100 := Nat.mul_le_mul_left _ hv3a
      have hc8 : ce / 100 * 100 ≤ ce := Nat.div_mul_le_self _ _
      refine lv_aload_n hx hb d_DU_lessenForSmall_0 rfl (lv_at hl 1 rfl) ?_
      refine lv_iconst (v := 1) hx hb d_DU_lessenForSmall_1 (by decide) ?_
      refine lv_aload_n hx hb d_DU_lessenForSmall_2 rfl (lv_at hl 0 rfl) ?_
      refine f_get (C := "DutyRules$Duty") (T := T_DU) (N := 9) hx hb (fun w q => hT w (s_DU w q)) hown hK hI g_X rfl 5 (by decide) (hT _ w_117) (fun _ q => q) rfl d_DU_lessenForSmall_3 ?_
      refine lv_iconst (v := 0) hx hb d_DU_lessenForSmall_6 (by decide) ?_
      refine f_ialdn (k := 0) (v := (nI g)) hx hb hI g_a1 (fT.ofK hK (t0 := 0) rfl) (by omega) (by omega) ((hK6 0 (by decide)).trans (by rw [hg]; rfl)) d_DU_lessenForSmall_7 ?_
      refine f_calli hI (f_runV C hI (k_goods l G h _ R ed rr rm hc 1 g (by decide) (by decide) (by omega)) gm_RU_firstOfGoods w_643 w_644 w_642 g_R rfl rfl rfl hl.1 rfl (Nat.le_of_ble_eq_true rfl) ⟨Nat.le_of_ble_eq_true rfl, Nat.le_of_ble_eq_true rfl⟩ d_DU_lessenForSmall_8 ⟨Nat.le_of_ble_eq_true rfl, Nat.le_of_ble_eq_true rfl⟩) (fun r_3 h8 H9 locs hp9 hX9 hz9 hI => ?_)
      obtain ⟨rfl, e9⟩ := hp9
      rw [e9] at hI
      clear hX9 e9
      rw [eS]
      refine lv_istore_n (lv' := [(2, .int (nI r)), (0, .ref X), (1, .ref R)]) hx hb d_DU_lessenForSmall_11 rfl hl (by decide) rfl (fun ls hl => ?_)
      refine lv_iload_n hx hb d_DU_lessenForSmall_12 rfl (lv_at hl 0 rfl) ?_
      refine lv_iconst (v := (-1)) hx hb d_DU_lessenForSmall_13 (by decide) ?_
      refine lv_icmp_eq (tgt := 32) hx hb d_DU_lessenForSmall_14 (by decide) (fun c_4 => absurd c_4 (n_m1 (by omega))) (fun c_4 => ?_)
      refine lv_aload_n hx hb d_DU_lessenForSmall_17 rfl (lv_at hl 1 rfl) ?_
      refine f_get (C := "DutyRules$Duty") (T := T_DU) (N := 9) hx hb (fun w q => hT w (s_DU w q)) hown hK hI g_X rfl 5 (by decide) (hT _ w_117) (fun _ q => q) rfl d_DU_lessenForSmall_18 ?_
      refine lv_iconst (v := 3) hx hb d_DU_lessenForSmall_21 (by decide) ?_
      refine f_ialdn (k := 3) (v := (nI v3)) hx hb hI g_a1 (fT.ofK hK (t0 := 0) rfl) (by omega) (by omega) ((hK6 3 (by decide)).trans (by rw [e3]; rfl)) d_DU_lessenForSmall_22 ?_
      refine lv_aload_n hx hb d_DU_lessenForSmall_23 rfl (lv_at hl 2 rfl) ?_
      refine lv_iload_n hx hb d_DU_lessenForSmall_24 rfl (lv_at hl 0 rfl) ?_
      refine lv_iconst (v := 1) hx hb d_DU_lessenForSmall_25 (by decide) ?_
      refine f_calli hI (f_runV C hI (k_number l G h _ R ed rr rm hc r 1 (by omega) (by rw [hkr]; decide)) gm_RU_number w_490 w_491 w_650 g_R rfl rfl rfl hl.1 rfl (Nat.le_of_ble_eq_true rfl) ⟨Nat.le_of_ble_eq_true rfl, Nat.le_of_ble_eq_true rfl⟩ d_DU_lessenForSmall_26 ⟨Nat.le_of_ble_eq_true rfl, Nat.le_of_ble_eq_true rfl⟩) (fun r_5 h8 H9 locs hp9 hX9 hz9 hI => ?_)
      obtain ⟨rfl, e9⟩ := hp9
      rw [e9] at hI
      clear hX9 e9
      refine f_asi (show nI (mV rr ed r (1 + 1)) = nI (mV rr ed r 2) from rfl) ?_
      refine lv_icmp_lt (tgt := 33) hx hb d_DU_lessenForSmall_29 (by decide) (fun c_6 => ?_) (fun c_6 => ?_)
      · have c_6 : v3 < (mV rr ed r 2) := (n_lt (a := v3) (b := (mV rr ed r 2)) (by omega) (by omega)).mp c_6
        refine lv_aload_n hx hb d_DU_lessenForSmall_33 rfl (lv_at hl 1 rfl) ?_
        refine lv_aload_n hx hb d_DU_lessenForSmall_34 rfl (lv_at hl 1 rfl) ?_
        refine f_get (C := "DutyRules$Duty") (T := T_DU) (N := 9) hx hb (fun w q => hT w (s_DU w q)) hown hK hI g_X rfl 3 (by decide) (hT _ w_113) (fun _ q => q) rfl d_DU_lessenForSmall_35 ?_
        refine lv_ldc2 (v := 100) hx hb hown (hT _ w_651) d_DU_lessenForSmall_38 ?_
        refine lv_ldiv hx hb d_DU_lessenForSmall_41 (l_ne0 (a := 100) (by omega) (by omega)) ?_
        refine f_asl (pk_lDiv (a := ce) (b := 100) (by omega) (by omega) (by omega)) ?_
        refine lv_aload_n hx hb d_DU_lessenForSmall_42 rfl (lv_at hl 2 rfl) ?_
        refine lv_iload_n hx hb d_DU_lessenForSmall_43 rfl (lv_at hl 0 rfl) ?_
        refine lv_iconst (v := 2) hx hb d_DU_lessenForSmall_44 (by decide) ?_
        refine f_calli hI (f_runV C hI (k_number l G h _ R ed rr rm hc r 2 (by omega) (by rw [hkr]; decide)) gm_RU_number w_490 w_491 w_650 g_R rfl rfl rfl hl.1 rfl (Nat.le_of_ble_eq_true rfl) ⟨Nat.le_of_ble_eq_true rfl, Nat.le_of_ble_eq_true rfl⟩ d_DU_lessenForSmall_45 ⟨Nat.le_of_ble_eq_true rfl, Nat.le_of_ble_eq_true rfl⟩) (fun r_7 h8 H9 locs hp9 hX9 hz9 hI => ?_)
        obtain ⟨rfl, e9⟩ := hp9
        rw [e9] at hI
        clear hX9 e9
        refine f_asi (show nI (mV rr ed r (2 + 1)) = nI (mV rr ed r 3) from rfl) ?_
        refine lv_i2l (v := lN (mV rr ed r 3)) hx hb d_DU_lessenForSmall_48 (n_i2l (by omega)) ?_
        refine lv_lmul hx hb d_DU_lessenForSmall_49 ?_
        refine f_asl (lN_mul (ce / 100) (mV rr ed r 3)) ?_
        refine f_put (C := "DutyRules$Duty") (T := T_DU) (N := 9) (fs' := [.int lt, .int rs, .int (nI L.length), .long (lN ((ce / 100) * (mV rr ed r 3))), .long (lN fr), .ref a1, .ref a2, .ref a3, .ref a4]) (v := .long (lN ((ce / 100) * (mV rr ed r 3)))) hx hb (fun w q => hT w (s_DU w q)) t_DU k_DU n_DU hown hK hI g_X (by decide) rfl 3 (by decide) (hT _ w_113) (fun _ q => q) rfl rfl rfl (Nat.le_of_ble_eq_true rfl) rfl d_DU_lessenForSmall_50 (fun H locs hI => ?_)
        generalize eh_8 : fU h X (13, ow, .inr (1, [.int lt, .int rs, .int (nI L.length), .long (lN ((ce / 100) * (mV rr ed r 3))), .long (lN fr), .ref a1, .ref a2, .ref a3, .ref a4])) = h_8 at hI
        have hX := hX.set (e := .inr (1, [.int lt, .int rs, .int (nI L.length), .long (lN ((ce / 100) * (mV rr ed r 3))), .long (lN fr), .ref a1, .ref a2, .ref a3, .ref a4])) g_X (by decide); rw [eh_8] at hX
        have hF := hF.set (e := .inr (1, [.int lt, .int rs, .int (nI L.length), .long (lN ((ce / 100) * (mV rr ed r 3))), .long (lN fr), .ref a1, .ref a2, .ref a3, .ref a4])) g_X ⟨by decide, by decide, rfl⟩; rw [eh_8] at hF
        have g_a1 : h_8 a1 = some (14, ow, .inl ((G.2.1 0), 6, .inl hv)) := (congrFun eh_8 a1).symm.trans (fU_keep g_a1 (f_neR g_a1 g_X (by decide)))
        have g_a2 : h_8 a2 = some (15, ow, .inl ((G.2.1 0), 5, .inl (fun i => nI (sl i)))) := (congrFun eh_8 a2).symm.trans (fU_keep g_a2 (f_neR g_a2 g_X (by decide)))
        have g_a3 : h_8 a3 = some (16, ow, .inl ((G.2.1 0), 5, .inl (fun i => nI (sr i)))) := (congrFun eh_8 a3).symm.trans (fU_keep g_a3 (f_neR g_a3 g_X (by decide)))
        have g_a4 : h_8 a4 = some (17, ow, .inl ((G.2.1 1), 5, .inr (.inl (fun i => lN (sc i))))) := (congrFun eh_8 a4).symm.trans (fU_keep g_a4 (f_neR g_a4 g_X (by decide)))
        have g_R : h_8 R = some (7, 0, .inr (6, [.int (nI (rm ed)), .ref b1, .ref b2])) := (congrFun eh_8 R).symm.trans (fU_keep g_R (f_neR g_R g_X (by decide)))
        have g_X : h_8 X = some (13, ow, .inr (1, [.int lt, .int rs, .int (nI L.length), .long (lN ((ce / 100) * (mV rr ed r 3))), .long (lN fr), .ref a1, .ref a2, .ref a3, .ref a4])) := (congrFun eh_8 X).symm.trans (fU_self _ _ _)
        refine lv_aload_n hx hb d_DU_lessenForSmall_53 rfl (lv_at hl 1 rfl) ?_
        refine lv_iconst (v := 3) hx hb d_DU_lessenForSmall_54 (by decide) ?_
        refine lv_iload_n hx hb d_DU_lessenForSmall_55 rfl (lv_at hl 0 rfl) ?_
        have hzA := hI.2.2.2.1
        refine f_callv hI (f_runV C hI (c_DU_addStep l G h_8 _ X ow lt rs hv (L, fr, (ce / 100) * (mV rr ed r 3)) ⟨a1, a2, a3, a4, sl, sr, sc, g_X, g_a1, g_a2, g_a3, g_a4, bdl, hq⟩ 3 r (by dsimp only; omega) (by dsimp only; omega)) gm_DU_addStep w_655 p_DU_addStep w_653 g_X rfl rfl rfl hl.1 rfl (Nat.le_of_ble_eq_true rfl) ⟨Nat.le_of_ble_eq_true rfl, Nat.le_of_ble_eq_true rfl⟩ d_DU_lessenForSmall_56 ⟨Nat.le_of_ble_eq_true rfl, Nat.le_of_ble_eq_true rfl⟩) (fun h9 H9 locs hp9 hX9 hz9 hI => ?_)
        obtain ⟨hD9, hF9⟩ := hp9
        have hX := fX.tr (Nat.le_trans (Nat.le_of_eq hsz.symm) hzA) hX hX9
        have hF := hF.tr hF9
        exact f_vret C hr hI ⟨by rw [show sD (some r) (some v3) (mV rr ed) (L, fr, ce) = (L ++ [(3, r, ce / 100 * mV rr ed r 3 / CT)], fr, ce / 100 * mV rr ed r 3) from if_pos (show v3 < mV rr ed r 2 by omega)]; exact hD9, hF⟩ hX (Nat.le_refl _) (Nat.le_refl _) d_DU_lessenForSmall_59
      · have c_6 : ¬ v3 < (mV rr ed r 2) := fun q => c_6 ((n_lt (a := v3) (b := (mV rr ed r 2)) (by omega) (by omega)).mpr q)
        exact f_vret C hr hI ⟨by rw [show sD (some r) (some v3) (mV rr ed) (L, fr, ce) = (L, fr, ce) from if_neg (show ¬ v3 < mV rr ed r 2 by omega)]; exact hD, hF⟩ hX (Nat.le_refl _) (Nat.le_refl _) d_DU_lessenForSmall_32
theorem gm_DU_roundToMultiple : gM y_DU_roundToMultiple b_DU_roundToMultiple 5 none 1 := ⟨w_676, w_8, ⟨by decide, by decide⟩, by decide +kernel⟩
set_option maxHeartbeats 4000000 in
set_option maxRecDepth 100000 in
/-- DU_roundToMultiple  -/
theorem c_DU_roundToMultiple (l : Launch) (G : gG) (h : fH) (sz : Nat) (X ow : Nat) (lt rs : Int32) (hv : Nat → Int32) (d : dst) (hD : cDu G h X ow lt rs hv d) (K : Nat → Option Nat) (hK6 : ∀ k, k < 6 → hv k = oN (K k)) (R ed : Nat) (rr rm : Nat → Nat) (hc : cR G h R rr rm ed) (hok : okE rr rm ed) (hd1 : d.1.length ≤ 4) (hd2 : d.2.2 ≤ 1000000000000000000) : cM l y_DU_roundToMultiple b_DU_roundToMultiple 5 none { frames := 1, cells := 0, slots := 0, locals := 22 } G [.ref X, .ref R] h sz (cQv G h sz (fun h' => cDu G h' X ow lt rs hv (sE (mF rr rm ed 4 0 0) (mV rr ed) d) ∧ fF (inD ow) h h')) := by
  refine f_start (by decide) (Nat.le_of_ble_eq_true rfl) ?_
  intro p e s m below meth c ls C hr hsz hI hl
  obtain ⟨hx, hb, hml, hown, hnm, hlk, hT, hG, hZ⟩ := id C
  have hK := hG.1
  have hX : fX h sz h := fX.rf
  have hl : lv_has ls 5 [(0, .ref X), (1, .ref R)] := hl
  obtain ⟨a1, a2, a3, a4, sl, sr, sc, g_X, g_a1, g_a2, g_a3, g_a4, bdl, hq⟩ := id hD
  obtain ⟨L, fr, ce⟩ := d
  dsimp only at g_X hq bdl
  have hF : fF (inD ow) h h := fF.rf
  dsimp only at hd1 hd2
  obtain ⟨kf0, nf0, ⟨b1, b2, g_R, _⟩, _⟩ := id hc
  rcases eS : mF rr rm ed 4 0 0 with _ | r
  · have hs : sE none (mV rr ed) (L, fr, ce) = (L, fr, ce) := rfl
    refine lv_aload_n hx hb d_DU_roundToMultiple_0 rfl (lv_at hl 1 rfl) ?_
    refine lv_iconst (v := 4) hx hb d_DU_roundToMultiple_1 (by decide) ?_
    refine f_calli hI (f_runV C hI (k_kind l G h _ R ed rr rm hc 4 (by decide) (by decide)) gm_RU_firstOfKind w_461 w_462 w_677 g_R rfl rfl rfl hl.1 rfl (Nat.le_of_ble_eq_true rfl) ⟨Nat.le_of_ble_eq_true rfl, Nat.le_of_ble_eq_true rfl⟩ d_DU_roundToMultiple_2 ⟨Nat.le_of_ble_eq_true rfl, Nat.le_of_ble_eq_true rfl⟩) (fun r_1 h8 H9 locs hp9 hX9 hz9 hI => ?_)
    obtain ⟨rfl, e9⟩ := hp9
    rw [e9] at hI
    clear hX9 e9
    rw [eS]
    refine lv_istore_n (lv' := [(2, .int (-1)), (0, .ref X), (1, .ref R)]) hx hb d_DU_roundToMultiple_5 rfl hl (by decide) rfl (fun ls hl => ?_)
    refine lv_iload_n hx hb d_DU_roundToMultiple_6 rfl (lv_at hl 0 rfl) ?_
    refine lv_iconst (v := (-1)) hx hb d_DU_roundToMultiple_7 (by decide) ?_
    refine lv_icmp_ne (tgt := 12) hx hb d_DU_roundToMultiple_8 (by decide) (fun c_2 => absurd rfl c_2) (fun c_2 => ?_)
    exact f_vret C hr hI ⟨by rw [hs]; exact hD, hF⟩ hX (Nat.le_refl _) (Nat.le_refl _) d_DU_roundToMultiple_11
  · obtain ⟨hrn, hkr⟩ := mF_k eS
    have hokr := hok r hrn
    have hv9 : 1 ≤ mV rr ed r 1 ∧ mV rr ed r 1 ≤ 1000 := hokr.2.2.2.2.2.2.1 hkr
    have hc9 := half_le (2 * ce + mV rr ed r 1 * 100000000000) (mV rr ed r 1 * 100000000000)
    have hs : sE (some r) (mV rr ed) (L, fr, ce) = (L ++ [(4, r, (2 * ce + mV rr ed r 1 * 100000000000) / (2 * (mV rr ed r 1 * 100000000000)) * (mV rr ed r 1 * 100000000000) / CT)], fr, (2 * ce + mV rr ed r 1 * 100000000000) / (2 * (mV rr ed r 1 * 100000000000)) * (mV rr ed r 1 * 100000000000)) := rfl
    refine lv_aload_n hx hb d_DU_roundToMultiple_0 rfl (lv_at hl 1 rfl) ?_
    refine lv_iconst (v := 4) hx hb d_DU_roundToMultiple_1 (by decide) ?_
    refine f_calli hI (f_runV C hI (k_kind l G h _ R ed rr rm hc 4 (by decide) (by decide)) gm_RU_firstOfKind w_461 w_462 w_677 g_R rfl rfl rfl hl.1 rfl (Nat.le_of_ble_eq_true rfl) ⟨Nat.le_of_ble_eq_true rfl, Nat.le_of_ble_eq_true rfl⟩ d_DU_roundToMultiple_2 ⟨Nat.le_of_ble_eq_true rfl, Nat.le_of_ble_eq_true rfl⟩) (fun r_3 h8 H9 locs hp9 hX9 hz9 hI => ?_)
    obtain ⟨rfl, e9⟩ := hp9
    rw [e9] at hI
    clear hX9 e9
    rw [eS]
    refine lv_istore_n (lv' := [(2, .int (nI r)), (0, .ref X), (1, .ref R)]) hx hb d_DU_roundToMultiple_5 rfl hl (by decide) rfl (fun ls hl => ?_)
    refine lv_iload_n hx hb d_DU_roundToMultiple_6 rfl (lv_at hl 0 rfl) ?_
    refine lv_iconst (v := (-1)) hx hb d_DU_roundToMultiple_7 (by decide) ?_
    refine lv_icmp_ne (tgt := 12) hx hb d_DU_roundToMultiple_8 (by decide) (fun c_4 => ?_) (fun c_4 => absurd c_4 (n_m1 (by omega)))
    refine lv_aload_n hx hb d_DU_roundToMultiple_12 rfl (lv_at hl 2 rfl) ?_
    refine lv_iload_n hx hb d_DU_roundToMultiple_13 rfl (lv_at hl 0 rfl) ?_
    refine lv_iconst (v := 0) hx hb d_DU_roundToMultiple_14 (by decide) ?_
    refine f_calli hI (f_runV C hI (k_number l G h _ R ed rr rm hc r 0 (by omega) (by rw [hkr]; decide)) gm_RU_number w_490 w_491 w_650 g_R rfl rfl rfl hl.1 rfl (Nat.le_of_ble_eq_true rfl) ⟨Nat.le_of_ble_eq_true rfl, Nat.le_of_ble_eq_true rfl⟩ d_DU_roundToMultiple_15 ⟨Nat.le_of_ble_eq_true rfl, Nat.le_of_ble_eq_true rfl⟩) (fun r_5 h8 H9 locs hp9 hX9 hz9 hI => ?_)
    obtain ⟨rfl, e9⟩ := hp9
    rw [e9] at hI
    clear hX9 e9
    refine f_asi (show nI (mV rr ed r (0 + 1)) = nI (mV rr ed r 1) from rfl) ?_
    refine lv_i2l (v := lN (mV rr ed r 1)) hx hb d_DU_roundToMultiple_18 (n_i2l (by omega)) ?_
    refine lv_ldc2 (v := 100000000000) hx hb hown (hT _ w_657) d_DU_roundToMultiple_19 ?_
    refine lv_lmul hx hb d_DU_roundToMultiple_22 ?_
    refine f_asl (lN_mul (mV rr ed r 1) 100000000000) ?_
    refine lv_lstore_n (lv' := [(3, .long (lN ((mV rr ed r 1) * 100000000000))), (2, .int (nI r)), (0, .ref X), (1, .ref R)]) hx hb d_DU_roundToMultiple_23 rfl hl (by decide) rfl (fun ls hl => ?_)
    refine lv_lload_n hx hb d_DU_roundToMultiple_24 rfl (lv_at hl 0 rfl) ?_
    refine lv_lconst (v := 1) hx hb d_DU_roundToMultiple_25 (by decide) ?_
    refine f_lc_ge (tgt := 31) hx hb d_DU_roundToMultiple_26 d_DU_roundToMultiple_27 (by decide) (fun c_6 => ?_) (fun c_6 => absurd ((pk_lLE (a := 1) (b := mV rr ed r 1 * 100000000000) (by omega) (by omega)).mpr (by omega)) c_6)
    refine lv_aload_n hx hb d_DU_roundToMultiple_31 rfl (lv_at hl 2 rfl) ?_
    refine lv_ldc2 (v := 2) hx hb hown (hT _ w_678) d_DU_roundToMultiple_32 ?_
    refine lv_aload_n hx hb d_DU_roundToMultiple_35 rfl (lv_at hl 2 rfl) ?_
    refine f_get (C := "DutyRules$Duty") (T := T_DU) (N := 9) hx hb (fun w q => hT w (s_DU w q)) hown hK hI g_X rfl 3 (by decide) (hT _ w_113) (fun _ q => q) rfl d_DU_roundToMultiple_36 ?_
    refine lv_lmul hx hb d_DU_roundToMultiple_39 ?_
    refine f_asl (lN_mul 2 ce) ?_
    refine lv_lload_n hx hb d_DU_roundToMultiple_40 rfl (lv_at hl 0 rfl) ?_
    refine lv_ladd hx hb d_DU_roundToMultiple_41 ?_
    refine f_asl (lN_add (2 * ce) ((mV rr ed r 1) * 100000000000)) ?_
    refine lv_ldc2 (v := 2) hx hb hown (hT _ w_678) d_DU_roundToMultiple_42 ?_
    refine lv_lload_n hx hb d_DU_roundToMultiple_45 rfl (lv_at hl 0 rfl) ?_
    refine lv_lmul hx hb d_DU_roundToMultiple_46 ?_
    refine f_asl (lN_mul 2 ((mV rr ed r 1) * 100000000000)) ?_
    refine lv_ldiv hx hb d_DU_roundToMultiple_47 (l_ne0 (a := (2 * ((mV rr ed r 1) * 100000000000))) (by omega) (by omega)) ?_
    refine f_asl (pk_lDiv (a := ((2 * ce) + ((mV rr ed r 1) * 100000000000))) (b := (2 * ((mV rr ed r 1) * 100000000000))) (by omega) (by omega) (by omega)) ?_
    refine lv_lload_n hx hb d_DU_roundToMultiple_48 rfl (lv_at hl 0 rfl) ?_
    refine lv_lmul hx hb d_DU_roundToMultiple_49 ?_
    refine f_asl (lN_mul (((2 * ce) + ((mV rr ed r 1) * 100000000000)) / (2 * ((mV rr ed r 1) * 100000000000))) ((mV rr ed r 1) * 100000000000)) ?_
    refine f_put (C := "DutyRules$Duty") (T := T_DU) (N := 9) (fs' := [.int lt, .int rs, .int (nI L.length), .long (lN ((((2 * ce) + ((mV rr ed r 1) * 100000000000)) / (2 * ((mV rr ed r 1) * 100000000000))) * ((mV rr ed r 1) * 100000000000))), .long (lN fr), .ref a1, .ref a2, .ref a3, .ref a4]) (v := .long (lN ((((2 * ce) + ((mV rr ed r 1) * 100000000000)) / (2 * ((mV rr ed r 1) * 100000000000))) * ((mV rr ed r 1) * 100000000000)))) hx hb (fun w q => hT w (s_DU w q)) t_DU k_DU n_DU hown hK hI g_X (by decide) rfl 3 (by decide) (hT _ w_113) (fun _ q => q) rfl rfl rfl (Nat.le_of_ble_eq_true rfl) rfl d_DU_roundToMultiple_50 (fun H locs hI => ?_)
    generalize eh_7 : fU h X (13, ow, .inr (1, [.int lt, .int rs, .int (nI L.length), .long (lN ((((2 * ce) + ((mV rr ed r 1) * 100000000000)) / (2 * ((mV rr ed r 1) * 100000000000))) * ((mV rr ed r 1) * 100000000000))), .long (lN fr), .ref a1, .ref a2, .ref a3, .ref a4])) = h_7 at hI
    have hX := hX.set (e := .inr (1, [.int lt, .int rs, .int (nI L.length), .long (lN ((((2 * ce) + ((mV rr ed r 1) * 100000000000)) / (2 * ((mV rr ed r 1) * 100000000000))) * ((mV rr ed r 1) * 100000000000))), .long (lN fr), .ref a1, .ref a2, .ref a3, .ref a4])) g_X (by decide); rw [eh_7] at hX
    have hF := hF.set (e := .inr (1, [.int lt, .int rs, .int (nI L.length), .long (lN ((((2 * ce) + ((mV rr ed r 1) * 100000000000)) / (2 * ((mV rr ed r 1) * 100000000000))) * ((mV rr ed r 1) * 100000000000))), .long (lN fr), .ref a1, .ref a2, .ref a3, .ref a4])) g_X ⟨by decide, by decide, rfl⟩; rw [eh_7] at hF
    have g_a1 : h_7 a1 = some (14, ow, .inl ((G.2.1 0), 6, .inl hv)) := (congrFun eh_7 a1).symm.trans (fU_keep g_a1 (f_neR g_a1 g_X (by decide)))
    have g_a2 : h_7 a2 = some (15, ow, .inl ((G.2.1 0), 5, .inl (fun i => nI (sl i)))) := (congrFun eh_7 a2).symm.trans (fU_keep g_a2 (f_neR g_a2 g_X (by decide)))
    have g_a3 : h_7 a3 = some (16, ow, .inl ((G.2.1 0), 5, .inl (fun i => nI (sr i)))) := (congrFun eh_7 a3).symm.trans (fU_keep g_a3 (f_neR g_a3 g_X (by decide)))
    have g_a4 : h_7 a4 = some (17, ow, .inl ((G.2.1 1), 5, .inr (.inl (fun i => lN (sc i))))) := (congrFun eh_7 a4).symm.trans (fU_keep g_a4 (f_neR g_a4 g_X (by decide)))
    have g_R : h_7 R = some (7, 0, .inr (6, [.int (nI (rm ed)), .ref b1, .ref b2])) := (congrFun eh_7 R).symm.trans (fU_keep g_R (f_neR g_R g_X (by decide)))
    have g_X : h_7 X = some (13, ow, .inr (1, [.int lt, .int rs, .int (nI L.length), .long (lN ((((2 * ce) + ((mV rr ed r 1) * 100000000000)) / (2 * ((mV rr ed r 1) * 100000000000))) * ((mV rr ed r 1) * 100000000000))), .long (lN fr), .ref a1, .ref a2, .ref a3, .ref a4])) := (congrFun eh_7 X).symm.trans (fU_self _ _ _)
    refine lv_aload_n hx hb d_DU_roundToMultiple_53 rfl (lv_at hl 2 rfl) ?_
    refine lv_iconst (v := 4) hx hb d_DU_roundToMultiple_54 (by decide) ?_
    refine lv_iload_n hx hb d_DU_roundToMultiple_55 rfl (lv_at hl 1 rfl) ?_
    have hzA := hI.2.2.2.1
    refine f_callv hI (f_runV C hI (c_DU_addStep l G h_7 _ X ow lt rs hv (L, fr, (((2 * ce) + ((mV rr ed r 1) * 100000000000)) / (2 * ((mV rr ed r 1) * 100000000000))) * ((mV rr ed r 1) * 100000000000)) ⟨a1, a2, a3, a4, sl, sr, sc, g_X, g_a1, g_a2, g_a3, g_a4, bdl, hq⟩ 4 r (by dsimp only; omega) (by dsimp only; omega)) gm_DU_addStep w_655 p_DU_addStep w_653 g_X rfl rfl rfl hl.1 rfl (Nat.le_of_ble_eq_true rfl) ⟨Nat.le_of_ble_eq_true rfl, Nat.le_of_ble_eq_true rfl⟩ d_DU_roundToMultiple_56 ⟨Nat.le_of_ble_eq_true rfl, Nat.le_of_ble_eq_true rfl⟩) (fun h9 H9 locs hp9 hX9 hz9 hI => ?_)
    obtain ⟨hD9, hF9⟩ := hp9
    have hX := fX.tr (Nat.le_trans (Nat.le_of_eq hsz.symm) hzA) hX hX9
    have hF := hF.tr hF9
    exact f_vret C hr hI ⟨by rw [hs]; exact hD9, hF⟩ hX (Nat.le_refl _) (Nat.le_refl _) d_DU_roundToMultiple_59
