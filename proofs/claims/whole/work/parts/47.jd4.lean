theorem gm_AR_checkLength : gM y_AR_checkLength b_AR_checkLength 2 none 2 := ⟨w_334, w_13, ⟨by decide, by decide⟩, by decide +kernel⟩
set_option maxHeartbeats 4000000 in
set_option maxRecDepth 100000 in
/-- AR_checkLength  -/
theorem c_AR_checkLength (l : Launch) (G : gG) (h : fH) (sz : Nat) (n : Nat) (bn : n < 2 ^ 31) : cM l y_AR_checkLength b_AR_checkLength 2 none { frames := 0, cells := 0, slots := 0, locals := 0 } G [.int 0, .int (nI n)] h sz (cQv G h sz (fun h' => h' = h)) := by
  refine f_start (by decide) (Nat.le_of_ble_eq_true rfl) ?_
  intro p e s m below meth c ls C hr hsz hI hl
  obtain ⟨hx, hb, hml, hown, hnm, hlk, hT, hG, hZ⟩ := id C
  have hK := hG.1
  have hX : fX h sz h := fX.rf
  have hl : lv_has ls 2 [(0, .int 0), (1, .int (nI n))] := hl
  refine lv_iload_n hx hb d_AR_checkLength_0 rfl (lv_at hl 1 rfl) ?_
  refine lv_iload_n hx hb d_AR_checkLength_1 rfl (lv_at hl 0 rfl) ?_
  refine lv_icmp_ge (tgt := 37) hx hb d_AR_checkLength_2 (by decide) (fun c_1 => ?_) (fun c_1 => absurd (nI_pos' bn) c_1)
  exact f_vret C hr hI rfl hX (Nat.le_refl _) (Nat.le_refl _) d_AR_checkLength_37
theorem gm_AR_copyOfRangeByte : gM y_AR_copyOfRangeByte b_AR_copyOfRangeByte 5 (some (.array .byte)) 3 := ⟨w_331, w_13, ⟨by decide, by decide⟩, by decide +kernel⟩
set_option maxHeartbeats 4000000 in
set_option maxRecDepth 100000 in
/-- AR_copyOfRangeByte  -/
theorem c_AR_copyOfRangeByte (l : Launch) (G : gG) (h : fH) (sz : Nat) (b r2 o mm n r4 o4 : Nat) (f : Nat → Int32) (hr2 : r2 ≠ 0) (hr4 : r4 ≠ 0) (g_b : h b = some (r2, o, .inl (G.2.1 3, mm, .inl f))) (hf : sb_Fit f) (bn : n ≤ mm) (bm : mm ≤ 60000) : cM l y_AR_copyOfRangeByte b_AR_copyOfRangeByte 5 (some (.array .byte)) { frames := 1, cells := 1, slots := n, locals := 40 } G [.ref b, .int 0, .int (nI n)] h sz (cQq G h sz (fun x h' => ∃ c1, x = some c1 ∧ h' c1 = some (r4, o4, .inl (G.2.1 3, n, .inl (va_cpy f (fun _ => 0) 0 0 n))) ∧ h c1 = none ∧ fF (inR []) h h')) := by
  refine f_start (by decide) (Nat.le_of_ble_eq_true rfl) ?_
  intro p e s m below meth c ls C hr hsz hI hl
  obtain ⟨hx, hb, hml, hown, hnm, hlk, hT, hG, hZ⟩ := id C
  have hK := hG.1
  have hX : fX h sz h := fX.rf
  have hl : lv_has ls 5 [(0, .ref b), (1, .int 0), (2, .int (nI n))] := hl
  have hF : fF (inR []) h h := fF.rf
  have g_b0 := g_b
  refine lv_iload_n hx hb d_AR_copyOfRangeByte_0 rfl (lv_at hl 1 rfl) ?_
  refine lv_iload_n hx hb d_AR_copyOfRangeByte_1 rfl (lv_at hl 2 rfl) ?_
  refine f_callv hI (f_runS C hI (c_AR_checkLength l G h _ n (by omega)) gm_AR_checkLength w_333 w_332 rfl hl.1 rfl (Nat.le_of_ble_eq_true rfl) ⟨Nat.le_of_ble_eq_true rfl, Nat.le_of_ble_eq_true rfl⟩ d_AR_copyOfRangeByte_2 ⟨by (try dsimp only); omega, by (try dsimp only); omega⟩) (fun h9 H9 locs hp9 hX9 hz9 hI => ?_)
  rw [hp9] at hI
  clear hX9
  refine lv_iload_n hx hb d_AR_copyOfRangeByte_5 rfl (lv_at hl 2 rfl) ?_
  refine lv_iload_n hx hb d_AR_copyOfRangeByte_6 rfl (lv_at hl 1 rfl) ?_
  refine lv_isub hx hb d_AR_copyOfRangeByte_7 ?_
  refine f_asi (pk_sub (a := n) (b := 0) (by omega)) ?_
  refine f_asi (congrArg nI (Nat.sub_zero n)) ?_
  refine lv_istore_n (lv' := [(3, .int (nI n)), (0, .ref b), (1, .int 0), (2, .int (nI n))]) hx hb d_AR_copyOfRangeByte_8 rfl hl (by decide) rfl (fun ls hl => ?_)
  refine lv_iload_n hx hb d_AR_copyOfRangeByte_9 rfl (lv_at hl 0 rfl) ?_
  have hzN := hI.2.2.2.1
  refine f_newa (atype := .byte) (a0 := (n, .inl (fun _ => 0))) (cA := (G.2.1 3)) hx hb (hT _ w_62) rfl hI (hK.2 3 _ rfl).2 rfl (nI_pos (by omega)) (nI_clamp (by omega)) (by show n * 1 ≤ _; omega) r4 o4 (by (try dsimp only); omega) (by (try dsimp only); omega) d_AR_copyOfRangeByte_10 (fun q_2 H eq_2 zq_2 nq_2 hI => ?_)
  generalize eh_3 : fU h q_2 (r4, o4, .inl ((G.2.1 3), n, .inl (fun _ => 0))) = h_3 at hI
  have hX := hX.new (e := .inl ((G.2.1 3), n, .inl (fun _ => 0))) (r := r4) (o := o4) nq_2 (by omega); rw [eh_3] at hX
  have hF := hF.new (c := (r4, o4, .inl ((G.2.1 3), n, .inl (fun _ => 0)))) nq_2; rw [eh_3] at hF
  have g_b : h_3 b = some (r2, o, .inl ((G.2.1 3), mm, .inl f)) := (congrFun eh_3 b).symm.trans (fU_keep g_b (f_neN g_b nq_2))
  have g_q_2 : h_3 q_2 = some (r4, o4, .inl ((G.2.1 3), n, .inl (fun _ => 0))) := (congrFun eh_3 q_2).symm.trans (fU_self _ _ _)
  refine lv_astore (lv' := [(4, .ref q_2), (3, .int (nI n)), (0, .ref b), (1, .int 0), (2, .int (nI n))]) hx hb d_AR_copyOfRangeByte_12 hl (by decide) rfl (fun ls hl => ?_)
  refine lv_aload_n hx hb d_AR_copyOfRangeByte_14 rfl (lv_at hl 2 rfl) ?_
  refine lv_iload_n hx hb d_AR_copyOfRangeByte_15 rfl (lv_at hl 3 rfl) ?_
  refine lv_aload hx hb d_AR_copyOfRangeByte_16 (lv_at hl 0 rfl) ?_
  refine lv_iconst (v := 0) hx hb d_AR_copyOfRangeByte_18 (by decide) ?_
  refine lv_aload_n hx hb d_AR_copyOfRangeByte_19 rfl (lv_at hl 2 rfl) ?_
  refine f_alen (v := nI mm) hx hb hI g_b (fT.ofK hK (t0 := 3) rfl) rfl d_AR_copyOfRangeByte_20 ?_
  refine lv_iload_n hx hb d_AR_copyOfRangeByte_21 rfl (lv_at hl 3 rfl) ?_
  refine lv_isub hx hb d_AR_copyOfRangeByte_22 ?_
  refine f_asi (pk_sub (a := mm) (b := 0) (by omega)) ?_
  refine f_asi (congrArg nI (Nat.sub_zero mm)) ?_
  refine lv_iload_n hx hb d_AR_copyOfRangeByte_23 rfl (lv_at hl 1 rfl) ?_
  refine va_mmin hx hb (hml.trans hl.1.symm) hown (hT _ w_241) (hT _ w_242) (hT _ w_12) (hT _ w_243) (Nat.le_of_ble_eq_true rfl) (Nat.le_of_ble_eq_true rfl) (by first | exact Nat.le_of_ble_eq_true rfl | ((try dsimp only); omega)) (by first | exact Nat.le_of_ble_eq_true rfl | ((try dsimp only); omega)) d_AR_copyOfRangeByte_24 ?_
  refine f_asi (mn_m bn (by omega)) ?_
  refine f_copyi hx hb (hml.trans hl.1.symm) hown (hT _ w_244) (hT _ w_246) (hT _ w_245) (hT _ w_14) hK hI 3 3 g_b hr2 g_q_2 hr4 rfl rfl rfl (by decide) (by decide) (nI_pos (by omega)) (by rw [sb_cl0, nI_clamp (by omega)]; omega) (by rw [sb_cl0, nI_clamp (by omega)]; omega) (fun i _ => hf _) (Nat.le_of_ble_eq_true rfl) (by rw [nfw]; exact Nat.le_of_ble_eq_true rfl) d_AR_copyOfRangeByte_27 (fun H locs hI => ?_)
  rw [sb_cl0, nI_clamp (n := n) (by omega)] at hI
  generalize eh_4 : fU h_3 q_2 (r4, o4, .inl ((G.2.1 3), n, .inl (va_cpy f (fun _ => 0) 0 0 n))) = h_4 at hI
  have hX := hX.set (e := .inl ((G.2.1 3), n, .inl (va_cpy f (fun _ => 0) 0 0 n))) g_q_2 hr4; rw [eh_4] at hX
  have hF := hF.setN (c := (r4, o4, .inl ((G.2.1 3), n, .inl (va_cpy f (fun _ => 0) 0 0 n)))) nq_2; rw [eh_4] at hF
  have g_b : h_4 b = some (r2, o, .inl ((G.2.1 3), mm, .inl f)) := (congrFun eh_4 b).symm.trans (fU_keep g_b (f_neN g_b0 nq_2))
  have g_q_2 : h_4 q_2 = some (r4, o4, .inl ((G.2.1 3), n, .inl (va_cpy f (fun _ => 0) 0 0 n))) := (congrFun eh_4 q_2).symm.trans (fU_self _ _ _)
  refine lv_aload hx hb d_AR_copyOfRangeByte_30 (lv_at hl 0 rfl) ?_
  exact f_aret (v := some q_2) C hr (Or.inr ⟨_, rfl⟩) hI ⟨q_2, rfl, g_q_2, nq_2, hF⟩ hX (by (try dsimp only); omega) (by (try dsimp only); omega) d_AR_copyOfRangeByte_32
theorem gm_AR_copyOfRange : gM y_AR_copyOfRange b_AR_copyOfRange 3 (some (.array .byte)) 3 := ⟨w_328, w_13, ⟨by decide, by decide⟩, by decide +kernel⟩
set_option maxHeartbeats 4000000 in
set_option maxRecDepth 100000 in
/-- AR_copyOfRange  -/
theorem c_AR_copyOfRange (l : Launch) (G : gG) (h : fH) (sz : Nat) (b r2 o mm n r4 o4 : Nat) (f : Nat → Int32) (hr2 : r2 ≠ 0) (hr4 : r4 ≠ 0) (g_b : h b = some (r2, o, .inl (G.2.1 3, mm, .inl f))) (hf : sb_Fit f) (bn : n ≤ mm) (bm : mm ≤ 60000) : cM l y_AR_copyOfRange b_AR_copyOfRange 3 (some (.array .byte)) { frames := 2, cells := 1, slots := n, locals := 64 } G [.ref b, .int 0, .int (nI n)] h sz (cQq G h sz (fun x h' => ∃ c1 f', x = some c1 ∧ h' c1 = some (r4, o4, .inl (G.2.1 3, n, .inl f')) ∧ h c1 = none ∧ sb_Fit f' ∧ (∀ j, j < n → f' j = f j) ∧ fF (inR []) h h')) := by
  refine f_start (by decide) (Nat.le_of_ble_eq_true rfl) ?_
  intro p e s m below meth c ls C hr hsz hI hl
  obtain ⟨hx, hb, hml, hown, hnm, hlk, hT, hG, hZ⟩ := id C
  have hK := hG.1
  have hX : fX h sz h := fX.rf
  have hl : lv_has ls 3 [(0, .ref b), (1, .int 0), (2, .int (nI n))] := hl
  have hF : fF (inR []) h h := fF.rf
  have g_b0 := g_b
  have hnB : s.vm.findClass "[B" = some (G.2.1 3) := (hK.2 3 _ rfl).2
  by_cases hnm2 : n = mm
  · skip
    refine lv_iload_n hx hb d_AR_copyOfRange_0 rfl (lv_at hl 1 rfl) ?_
    refine lv_if_ne (tgt := 10) hx hb d_AR_copyOfRange_1 (by decide) (fun c_1 => absurd (by decide) c_1) (fun c_1 => ?_)
    refine lv_iload_n hx hb d_AR_copyOfRange_4 rfl (lv_at hl 2 rfl) ?_
    refine lv_aload_n hx hb d_AR_copyOfRange_5 rfl (lv_at hl 0 rfl) ?_
    refine f_alen (v := nI mm) hx hb hI g_b (fT.ofK hK (t0 := 3) rfl) rfl d_AR_copyOfRange_6 ?_
    refine lv_icmp_eq (tgt := 17) hx hb d_AR_copyOfRange_7 (by decide) (fun c_2 => ?_) (fun c_2 => absurd (congrArg nI hnm2) c_2)
    refine lv_aload_n hx hb d_AR_copyOfRange_17 rfl (lv_at hl 0 rfl) ?_
    have hzN := hI.2.2.2.1
    refine f_clone hx hb (hml.trans hl.1.symm) hown (hT _ w_234) (hT _ w_235) (hT _ w_236) (hT _ w_237) (hT _ w_238) (hG.2.1 _ w_239) hK hI 3 r4 o4 g_b hr2 rfl hnB (cl_fit hf) (Nat.le_of_ble_eq_true rfl) (Nat.le_of_ble_eq_true rfl) (by (try dsimp only); omega) (by (try dsimp only); omega) d_AR_copyOfRange_18 (fun q_3 H eq_3 zq_3 nq_3 hI => ?_)
    generalize eh_4 : fU h q_3 (r4, o4, .inl ((G.2.1 3), mm, .inl f)) = h_4 at hI
    have hX := hX.new (e := .inl ((G.2.1 3), mm, .inl f)) (r := r4) (o := o4) nq_3 (by omega); rw [eh_4] at hX
    have hF := hF.new (c := (r4, o4, .inl ((G.2.1 3), mm, .inl f))) nq_3; rw [eh_4] at hF
    have g_b : h_4 b = some (r2, o, .inl ((G.2.1 3), mm, .inl f)) := (congrFun eh_4 b).symm.trans (fU_keep g_b (f_neN g_b nq_3))
    have g_q_3 : h_4 q_3 = some (r4, o4, .inl ((G.2.1 3), mm, .inl f)) := (congrFun eh_4 q_3).symm.trans (fU_self _ _ _)
    refine f_castA hx hb hown (hT _ w_240) hI g_q_3 hr4 hnB d_AR_copyOfRange_21 ?_
    exact f_aret (v := some q_3) C hr (Or.inr ⟨_, rfl⟩) hI ⟨q_3, f, rfl, by rw [hnm2]; exact g_q_3, nq_3, hf, fun _ _ => rfl, hF⟩ hX (by (try dsimp only); omega) (by (try dsimp only); omega) d_AR_copyOfRange_24
  · skip
    refine lv_iload_n hx hb d_AR_copyOfRange_0 rfl (lv_at hl 1 rfl) ?_
    refine lv_if_ne (tgt := 10) hx hb d_AR_copyOfRange_1 (by decide) (fun c_5 => absurd (by decide) c_5) (fun c_5 => ?_)
    refine lv_iload_n hx hb d_AR_copyOfRange_4 rfl (lv_at hl 2 rfl) ?_
    refine lv_aload_n hx hb d_AR_copyOfRange_5 rfl (lv_at hl 0 rfl) ?_
    refine f_alen (v := nI mm) hx hb hI g_b (fT.ofK hK (t0 := 3) rfl) rfl d_AR_copyOfRange_6 ?_
    refine lv_icmp_eq (tgt := 17) hx hb d_AR_copyOfRange_7 (by decide) (fun c_6 => absurd c_6 (fun q => hnm2 ((n_eq (a := n) (b := mm) (by omega) (by omega)).mp q))) (fun c_6 => ?_)
    refine lv_aload_n hx hb d_AR_copyOfRange_10 rfl (lv_at hl 0 rfl) ?_
    refine lv_iload_n hx hb d_AR_copyOfRange_11 rfl (lv_at hl 1 rfl) ?_
    refine lv_iload_n hx hb d_AR_copyOfRange_12 rfl (lv_at hl 2 rfl) ?_
    have hzA := hI.2.2.2.1
    refine f_callq hI (f_runS C hI (c_AR_copyOfRangeByte l G h _ b r2 o mm n r4 o4 f hr2 hr4 g_b hf bn bm) gm_AR_copyOfRangeByte w_330 w_329 rfl hl.1 rfl (Nat.le_of_ble_eq_true rfl) ⟨Nat.le_of_ble_eq_true rfl, Nat.le_of_ble_eq_true rfl⟩ d_AR_copyOfRange_13 ⟨by (try dsimp only); omega, by (try dsimp only); omega⟩) (fun r_7 h9 H9 locs hp9 hX9 hz9 hI => ?_)
    obtain ⟨c1, rfl, g_c, nc, hF9⟩ := hp9
    have hX := fX.tr (Nat.le_trans (Nat.le_of_eq hsz.symm) hzA) hX hX9
    exact f_aret (v := some c1) C hr (Or.inr ⟨_, rfl⟩) hI ⟨c1, _, rfl, g_c, nc, sb_fitC hf sb_fit0, fun j hj => sb_cpy0 hj, hF9⟩ hX (by (try dsimp only); omega) (by (try dsimp only); omega) d_AR_copyOfRange_16
theorem gm_ST_init2 : gM y_ST_init2 b_ST_init2 5 none 2 := ⟨w_317, w_4, ⟨by decide, by decide⟩, by decide +kernel⟩
set_option maxHeartbeats 4000000 in
set_option maxRecDepth 100000 in
/-- ST_init2  -/
theorem c_ST_init2 (l : Launch) (G : gG) (h : fH) (sz : Nat) (s1 a r r2 o mm n r3 r4 o3 : Nat) (tx : Nat → Nat) (hr0 : r ≠ 0) (hr2 : r2 ≠ 0) (hrr : r ≠ r2) (hB : bS G h r r2 o a mm n tx) (hr3 : r3 ≠ 0) (hr4 : r4 ≠ 0) (d1 : r ≠ r3) (d2 : r2 ≠ r3) (d3 : r4 ≠ r3) (g_s : h s1 = some (r3, o3, .inr (10, [.null, .int 0, .int 0, .int 0]))) : cM l y_ST_init2 b_ST_init2 5 none { frames := 3, cells := 1, slots := n, locals := 86 } G [.ref s1, .ref a, .null] h sz (cQv G h sz (fun h' => sT G h' r3 r4 o3 s1 tx n ∧ fF (inR [r3]) h h')) := by
  refine f_start (by decide) (Nat.le_of_ble_eq_true rfl) ?_
  intro p e s m below meth c ls C hr hsz hI hl
  obtain ⟨hx, hb, hml, hown, hnm, hlk, hT, hG, hZ⟩ := id C
  have hK := hG.1
  have hX : fX h sz h := fX.rf
  have hl : lv_has ls 5 [(0, .ref s1), (1, .ref a), (2, .null)] := hl
  obtain ⟨b, ml, f, g_a, g_b, hL, hf, bn, b16, bm0⟩ := id hB
  have hF : fF (inR [r3]) h h := fF.rf
  refine lv_aload_n hx hb d_ST_init2_0 rfl (lv_at hl 0 rfl) ?_
  refine W.objInit hx hb hown (hT _ w_318) (hT _ w_28) (hT _ w_29) rfl (by rw [hml]; exact hl.1) rfl d_ST_init2_1 (Nat.le_of_ble_eq_true rfl) (Nat.le_of_ble_eq_true rfl) ?_
  refine W.eq (g2 := F0 m 4 ls []) rfl ?_
  refine lv_aload_n hx hb d_ST_init2_4 rfl (lv_at hl 1 rfl) ?_
  have hzA := hI.2.2.2.1
  refine f_callq hI (f_runU (C := "java/lang/StringBuilder") C hI (c_AB_getValue l G h _ a b r o ml (nI n) g_a) gm_AB_getValue w_320 w_323 ⟨by decide, by decide⟩ rfl w_320 w_322 w_321 w_319 g_a rfl rfl rfl hl.1 rfl (Nat.le_of_ble_eq_true rfl) ⟨Nat.le_of_ble_eq_true rfl, Nat.le_of_ble_eq_true rfl⟩ d_ST_init2_5 ⟨by (try dsimp only); omega, by (try dsimp only); omega⟩) (fun r_1 h8 H9 locs hp9 hX9 hz9 hI => ?_)
  obtain ⟨rfl, e9⟩ := hp9
  rw [e9] at hI
  clear hX9 e9
  refine lv_astore_n (lv' := [(3, .ref b), (0, .ref s1), (1, .ref a), (2, .null)]) hx hb d_ST_init2_8 rfl hl (by decide) rfl (fun ls hl => ?_)
  refine lv_aload_n hx hb d_ST_init2_9 rfl (lv_at hl 2 rfl) ?_
  have hzA := hI.2.2.2.1
  refine f_calli hI (f_runU (C := "java/lang/StringBuilder") C hI (c_SB_length l G h _ a b r o ml (nI n) g_a) gm_SB_length w_203 w_204 ⟨by decide, by decide⟩ rfl w_199 w_1101 w_1096 w_324 g_a rfl rfl rfl hl.1 rfl (Nat.le_of_ble_eq_true rfl) ⟨Nat.le_of_ble_eq_true rfl, Nat.le_of_ble_eq_true rfl⟩ d_ST_init2_10 ⟨by (try dsimp only); omega, by (try dsimp only); omega⟩) (fun r_2 h8 H9 locs hp9 hX9 hz9 hI => ?_)
  obtain ⟨rfl, e9⟩ := hp9
  rw [e9] at hI
  clear hX9 e9
  refine lv_istore (lv' := [(4, .int (nI n)), (3, .ref b), (0, .ref s1), (1, .ref a), (2, .null)]) hx hb d_ST_init2_13 hl (by decide) rfl (fun ls hl => ?_)
  refine lv_aload_n hx hb d_ST_init2_15 rfl (lv_at hl 3 rfl) ?_
  have hzA := hI.2.2.2.1
  refine f_calli hI (f_runU (C := "java/lang/StringBuilder") C hI (c_AB_isLatin1 l G h _ a b r o ml (nI n) g_a) gm_AB_isLatin1 w_248 w_251 ⟨by decide, by decide⟩ rfl w_248 w_250 w_249 w_325 g_a rfl rfl rfl hl.1 rfl (Nat.le_of_ble_eq_true rfl) ⟨Nat.le_of_ble_eq_true rfl, Nat.le_of_ble_eq_true rfl⟩ d_ST_init2_16 ⟨by (try dsimp only); omega, by (try dsimp only); omega⟩) (fun r_3 h8 H9 locs hp9 hX9 hz9 hI => ?_)
  obtain ⟨rfl, e9⟩ := hp9
  rw [e9] at hI
  clear hX9 e9
  refine lv_if_eq (tgt := 41) hx hb d_ST_init2_19 (by decide) (fun c_4 => absurd c_4 (by decide)) (fun c_4 => ?_)
  refine lv_aload_n hx hb d_ST_init2_22 rfl (lv_at hl 2 rfl) ?_
  refine lv_iconst (v := 0) hx hb d_ST_init2_23 (by decide) ?_
  refine f_putF (C := "java/lang/String") (T := T_ST) (N := 4) (fs' := [.null, .int 0, .int 0, .int 0]) (v := .int 0) hx hb (fun w q => hT w (s_ST w q)) t_ST k_ST n_ST hown hK hI g_s hr3 rfl 1 (by decide) (hT _ w_350) (fun _ q => q) rfl hnm rfl rfl rfl (Nat.le_of_ble_eq_true rfl) rfl d_ST_init2_24 (fun H locs hI => ?_)
  generalize eh_5 : fU h s1 (r3, o3, .inr (10, [.null, .int 0, .int 0, .int 0])) = h_5 at hI
  have hX := hX.set (e := .inr (10, [.null, .int 0, .int 0, .int 0])) g_s hr3; rw [eh_5] at hX
  have hF := hF.set (e := .inr (10, [.null, .int 0, .int 0, .int 0])) g_s (show r3 ∈ [r3] from by simp); rw [eh_5] at hF
  have g_a : h_5 a = some (r, o, .inr (9, [.ref b, .int 0, .int ml, .int (nI n)])) := (congrFun eh_5 a).symm.trans (fU_keep g_a (f_neR g_a g_s d1))
  have g_b : h_5 b = some (r2, o, .inl ((G.2.1 3), mm, .inl f)) := (congrFun eh_5 b).symm.trans (fU_keep g_b (f_neR g_b g_s d2))
  have g_s : h_5 s1 = some (r3, o3, .inr (10, [.null, .int 0, .int 0, .int 0])) := (congrFun eh_5 s1).symm.trans (fU_self _ _ _)
  refine lv_aload_n hx hb d_ST_init2_27 rfl (lv_at hl 2 rfl) ?_
  refine lv_aload_n hx hb d_ST_init2_28 rfl (lv_at hl 1 rfl) ?_
  refine lv_iconst (v := 0) hx hb d_ST_init2_29 (by decide) ?_
  refine lv_iload hx hb d_ST_init2_30 (lv_at hl 0 rfl) ?_
  have hzA := hI.2.2.2.1
  refine f_callq hI (f_runS C hI (c_AR_copyOfRange l G h_5 _ b r2 o mm n r4 o3 f hr2 hr4 g_b hf bn bm0) gm_AR_copyOfRange w_327 w_326 rfl hl.1 rfl (Nat.le_of_ble_eq_true rfl) ⟨Nat.le_of_ble_eq_true rfl, Nat.le_of_ble_eq_true rfl⟩ d_ST_init2_32 ⟨by (try dsimp only); omega, by (try dsimp only); omega⟩) (fun r_6 h9 H9 locs hp9 hX9 hz9 hI => ?_)
  obtain ⟨c1, f3, rfl, g_c, nc, hf3, hk3, hF9⟩ := hp9
  have hX := fX.tr (Nat.le_trans (Nat.le_of_eq hsz.symm) hzA) hX hX9
  have g_s := hF9 _ _ _ _ g_s inR0
  have g_a := hF9 _ _ _ _ g_a inR0
  have g_b := hF9 _ _ _ _ g_b inR0
  have hF := hF.tr (hF9.mono (fun r9 _ q => (by simp [inR] at q ⊢; (try omega) : inR [r3] r9 _)))
  refine f_putF (C := "java/lang/String") (T := T_ST) (N := 4) (fs' := [.ref c1, .int 0, .int 0, .int 0]) (v := .ref c1) hx hb (fun w q => hT w (s_ST w q)) t_ST k_ST n_ST hown hK hI g_s hr3 rfl 0 (by decide) (hT _ w_349) (fun _ q => q) rfl hnm rfl rfl rfl (Nat.le_of_ble_eq_true rfl) rfl d_ST_init2_35 (fun H locs hI => ?_)
  generalize eh_7 : fU h9 s1 (r3, o3, .inr (10, [.ref c1, .int 0, .int 0, .int 0])) = h_7 at hI
  have hX := hX.set (e := .inr (10, [.ref c1, .int 0, .int 0, .int 0])) g_s hr3; rw [eh_7] at hX
  have hF := hF.set (e := .inr (10, [.ref c1, .int 0, .int 0, .int 0])) g_s (show r3 ∈ [r3] from by simp); rw [eh_7] at hF
  have g_a : h_7 a = some (r, o, .inr (9, [.ref b, .int 0, .int ml, .int (nI n)])) := (congrFun eh_7 a).symm.trans (fU_keep g_a (f_neR g_a g_s d1))
  have g_b : h_7 b = some (r2, o, .inl ((G.2.1 3), mm, .inl f)) := (congrFun eh_7 b).symm.trans (fU_keep g_b (f_neR g_b g_s d2))
  have g_c : h_7 c1 = some (r4, o3, .inl ((G.2.1 3), n, .inl f3)) := (congrFun eh_7 c1).symm.trans (fU_keep g_c (f_neR g_c g_s d3))
  have g_s : h_7 s1 = some (r3, o3, .inr (10, [.ref c1, .int 0, .int 0, .int 0])) := (congrFun eh_7 s1).symm.trans (fU_self _ _ _)
  refine lv_goto (tgt := 97) hx hb d_ST_init2_38 (by decide) ?_
  exact f_vret C hr hI ⟨⟨c1, G.2.1 3, f3, _, g_s, g_c, Or.inr rfl, by omega, fun i hi => ⟨(hL i hi).1, (hk3 i hi).trans (hL i hi).2⟩⟩, hF⟩ hX (by (try dsimp only); omega) (by (try dsimp only); omega) d_ST_init2_97
theorem gm_ST_init : gM y_ST_init b_ST_init 2 none 1 := ⟨w_314, w_4, ⟨by decide, by decide⟩, by decide +kernel⟩
set_option maxHeartbeats 4000000 in
set_option maxRecDepth 100000 in
/-- ST_init  -/
theorem c_ST_init (l : Launch) (G : gG) (h : fH) (sz : Nat) (s1 a r r2 o mm n r3 r4 o3 : Nat) (tx : Nat → Nat) (hr0 : r ≠ 0) (hr2 : r2 ≠ 0) (hrr : r ≠ r2) (hB : bS G h r r2 o a mm n tx) (hr3 : r3 ≠ 0) (hr4 : r4 ≠ 0) (d1 : r ≠ r3) (d2 : r2 ≠ r3) (d3 : r4 ≠ r3) (g_s : h s1 = some (r3, o3, .inr (10, [.null, .int 0, .int 0, .int 0]))) : cM l y_ST_init b_ST_init 2 none { frames := 4, cells := 1, slots := n, locals := 110 } G [.ref s1, .ref a] h sz (cQv G h sz (fun h' => sT G h' r3 r4 o3 s1 tx n ∧ fF (inR [r3]) h h')) := by
  refine f_start (by decide) (Nat.le_of_ble_eq_true rfl) ?_
  intro p e s m below meth c ls C hr hsz hI hl
  obtain ⟨hx, hb, hml, hown, hnm, hlk, hT, hG, hZ⟩ := id C
  have hK := hG.1
  have hX : fX h sz h := fX.rf
  have hl : lv_has ls 2 [(0, .ref s1), (1, .ref a)] := hl
  obtain ⟨b, ml, f, g_a, g_b, hL, hf, bn, b16, bm0⟩ := id hB
  refine lv_aload_n hx hb d_ST_init_0 rfl (lv_at hl 0 rfl) ?_
  refine lv_aload_n hx hb d_ST_init_1 rfl (lv_at hl 1 rfl) ?_
  refine lv_null hx hb d_ST_init_2 ?_
  have hzA := hI.2.2.2.1
  refine f_callv hI (f_runI C hI (c_ST_init2 l G h _ s1 a r r2 o mm n r3 r4 o3 tx hr0 hr2 hrr hB hr3 hr4 d1 d2 d3 g_s) gm_ST_init2 w_316 rfl w_315 rfl hl.1 rfl (Nat.le_of_ble_eq_true rfl) ⟨Nat.le_of_ble_eq_true rfl, Nat.le_of_ble_eq_true rfl⟩ d_ST_init_3 ⟨by (try dsimp only); omega, by (try dsimp only); omega⟩) (fun h9 H9 locs hp9 hX9 hz9 hI => ?_)
  obtain ⟨hs9, hF9⟩ := hp9
  have hX := fX.tr (Nat.le_trans (Nat.le_of_eq hsz.symm) hzA) hX hX9
  exact f_vret C hr hI ⟨hs9, hF9⟩ hX (by (try dsimp only); omega) (by (try dsimp only); omega) d_ST_init_6
theorem gm_SB_toString : gM y_SB_toString b_SB_toString 1 (some (.object "java/lang/String")) 0 := ⟨w_309, w_3, ⟨by decide, by decide⟩, by decide +kernel⟩
set_option maxHeartbeats 4000000 in
set_option maxRecDepth 100000 in
/-- SB_toString  -/
theorem c_SB_toString (l : Launch) (G : gG) (h : fH) (sz : Nat) (a r r2 o mm n r3 r4 o3 : Nat) (tx : Nat → Nat) (hr0 : r ≠ 0) (hr2 : r2 ≠ 0) (hrr : r ≠ r2) (hB : bS G h r r2 o a mm n tx) (hr3 : r3 ≠ 0) (hr4 : r4 ≠ 0) (d1 : r ≠ r3) (d2 : r2 ≠ r3) (d3 : r4 ≠ r3) : cM l y_SB_toString b_SB_toString 1 (some (.object "java/lang/String")) { frames := 5, cells := 2, slots := n + 4, locals := 131 } G [.ref a] h sz (cQq G h sz (fun x h' => ∃ s1, x = some s1 ∧ sT G h' r3 r4 o3 s1 tx n ∧ fF (inR [r3]) h h')) := by
  refine f_start (by decide) (Nat.le_of_ble_eq_true rfl) ?_
  intro p e s m below meth c ls C hr hsz hI hl
  obtain ⟨hx, hb, hml, hown, hnm, hlk, hT, hG, hZ⟩ := id C
  have hK := hG.1
  have hX : fX h sz h := fX.rf
  have hl : lv_has ls 1 [(0, .ref a)] := hl
  obtain ⟨b, ml, f, g_a, g_b, hL, hf, bn, b16, bm0⟩ := id hB
  have hF : fF (inR [r3]) h h := fF.rf
  have hzN := hI.2.2.2.1
  refine f_new (ci := 10) (C := "java/lang/String") (T := T_ST) (N := 4) (N2 := 4) (fs := [.null, .int 0, .int 0, .int 0]) hx hb (fun w q => hT w (s_ST w q)) t_ST k_ST hown (hT _ w_310) (hT _ w_311) (hT _ w_4) hK hI rfl (fun j hj => by rcases (show j = 0 ∨ j = 1 ∨ j = 2 ∨ j = 3 by omega) with rfl | rfl | rfl | rfl <;> rfl) r3 o3 (by (try dsimp only); omega) (by (try dsimp only); omega) d_SB_toString_0 (fun q_1 H eq_1 zq_1 nq_1 hI => ?_)
  generalize eh_2 : fU h q_1 (r3, o3, .inr (10, [.null, .int 0, .int 0, .int 0])) = h_2 at hI
  have hX := hX.new (e := .inr (10, [.null, .int 0, .int 0, .int 0])) (r := r3) (o := o3) nq_1 (by omega); rw [eh_2] at hX
  have hF := hF.new (c := (r3, o3, .inr (10, [.null, .int 0, .int 0, .int 0]))) nq_1; rw [eh_2] at hF
  have g_a : h_2 a = some (r, o, .inr (9, [.ref b, .int 0, .int ml, .int (nI n)])) := (congrFun eh_2 a).symm.trans (fU_keep g_a (f_neN g_a nq_1))
  have g_b : h_2 b = some (r2, o, .inl ((G.2.1 3), mm, .inl f)) := (congrFun eh_2 b).symm.trans (fU_keep g_b (f_neN g_b nq_1))
  have g_q_1 : h_2 q_1 = some (r3, o3, .inr (10, [.null, .int 0, .int 0, .int 0])) := (congrFun eh_2 q_1).symm.trans (fU_self _ _ _)
  refine lv_dup hx hb d_SB_toString_3 rfl ?_
  refine lv_aload_n hx hb d_SB_toString_4 rfl (lv_at hl 0 rfl) ?_
  have hzA := hI.2.2.2.1
  refine f_callv hI (f_runI C hI (c_ST_init l G h_2 _ q_1 a r r2 o mm n r3 r4 o3 tx hr0 hr2 hrr ⟨b, ml, f, g_a, g_b, hL, hf, bn, b16, bm0⟩ hr3 hr4 d1 d2 d3 g_q_1) gm_ST_init w_313 rfl w_312 rfl hl.1 rfl (Nat.le_of_ble_eq_true rfl) ⟨Nat.le_of_ble_eq_true rfl, Nat.le_of_ble_eq_true rfl⟩ d_SB_toString_5 ⟨by (try dsimp only); omega, by (try dsimp only); omega⟩) (fun h9 H9 locs hp9 hX9 hz9 hI => ?_)
  obtain ⟨hs9, hF9⟩ := hp9
  have hX := fX.tr (Nat.le_trans (Nat.le_of_eq hsz.symm) hzA) hX hX9
  have hF := hF.tr (hF9.mono (fun r9 _ q => (by simp [inR] at q ⊢; (try omega) : inR [r3] r9 _)))
  exact f_aret (v := some q_1) C hr (Or.inl ⟨_, rfl⟩) hI ⟨q_1, rfl, hs9, hF⟩ hX (by (try dsimp only); omega) (by (try dsimp only); omega) d_SB_toString_8
theorem gm_AB_setLength : gM y_AB_setLength b_AB_setLength 2 none 1 := ⟨w_414, w_2, ⟨by decide, by decide⟩, by decide +kernel⟩
set_option maxHeartbeats 4000000 in
set_option maxRecDepth 100000 in
/-- AB_setLength  -/
theorem c_AB_setLength (l : Launch) (G : gG) (h : fH) (sz : Nat) (a r r2 o mm n : Nat) (tx : Nat → Nat) (hr0 : r ≠ 0) (hr2 : r2 ≠ 0) (hrr : r ≠ r2) (hB : bS G h r r2 o a mm n tx) : cM l y_AB_setLength b_AB_setLength 2 none { frames := 4, cells := 0, slots := 0, locals := 91 } G [.ref a, .int 0] h sz (cQv G h sz (fun h' => bS G h' r r2 o a mm 0 tx ∧ fF (inR [r, r2]) h h')) := by
  refine f_start (by decide) (Nat.le_of_ble_eq_true rfl) ?_
  intro p e s m below meth c ls C hr hsz hI hl
  obtain ⟨hx, hb, hml, hown, hnm, hlk, hT, hG, hZ⟩ := id C
  have hK := hG.1
  have hX : fX h sz h := fX.rf
  have hl : lv_has ls 2 [(0, .ref a), (1, .int 0)] := hl
  obtain ⟨b, ml, f, g_a, g_b, hL, hf, bn, b16, bm0⟩ := id hB
  have hF : fF (inR [r, r2]) h h := fF.rf
  have ec := gc_y (mm := mm) (Nat.zero_le mm)
  have es := gs_y (mm := mm) (Nat.zero_le mm)
  have ew := gw_y (mm := mm) (Nat.zero_le mm)
  refine lv_iload_n hx hb d_AB_setLength_0 rfl (lv_at hl 1 rfl) ?_
  refine lv_if_ge (tgt := 13) hx hb d_AB_setLength_1 (by decide) (fun c_1 => ?_) (fun c_1 => absurd (by decide) c_1)
  refine lv_aload_n hx hb d_AB_setLength_13 rfl (lv_at hl 0 rfl) ?_
  refine lv_iload_n hx hb d_AB_setLength_14 rfl (lv_at hl 1 rfl) ?_
  have hzA := hI.2.2.2.1
  refine f_callv hI (f_runU (C := "java/lang/StringBuilder") C hI (c_AB_ensureCapacityInternal l G h _ a b r r2 o mm 0 ml (nI n) f hr0 hr2 hrr g_a g_b hf (by omega) (by omega)) gm_AB_ensureCapacityInternal w_214 w_215 ⟨by decide, by decide⟩ rfl w_214 p_AB_ensureCapacityInternal w_1098 w_212 g_a rfl rfl rfl hl.1 rfl (Nat.le_of_ble_eq_true rfl) ⟨Nat.le_of_ble_eq_true rfl, Nat.le_of_ble_eq_true rfl⟩ d_AB_setLength_15 ⟨by (try dsimp only); omega, by (try dsimp only); omega⟩) (fun h9 H9 locs hp9 hX9 hz9 hI => ?_)
  obtain ⟨b2, f2, g_a, g_b2, hf2, hk2, hF9⟩ := hp9
  have hX := fX.tr (Nat.le_trans (Nat.le_of_eq hsz.symm) hzA) hX hX9
  have hF := hF.tr (hF9.mono (fun r9 _ q => (by simp [inR] at q ⊢; (try omega) : inR [r, r2] r9 _)))
  refine lv_aload_n hx hb d_AB_setLength_18 rfl (lv_at hl 0 rfl) ?_
  refine f_get (C := "java/lang/StringBuilder") (T := T_SB) (N := 4) hx hb (fun w q => hT w (s_SB w q)) hown hK hI g_a rfl 3 (by decide) (hT _ w_52) (fun _ q => q) rfl d_AB_setLength_19 ?_
  refine lv_iload_n hx hb d_AB_setLength_22 rfl (lv_at hl 1 rfl) ?_
  refine lv_icmp_ge (tgt := 63) hx hb d_AB_setLength_23 (by decide) (fun c_3 => ?_) (fun c_3 => absurd (nI_pos' (by omega)) c_3)
  refine lv_aload_n hx hb d_AB_setLength_63 rfl (lv_at hl 0 rfl) ?_
  refine f_get (C := "java/lang/StringBuilder") (T := T_SB) (N := 4) hx hb (fun w q => hT w (s_SB w q)) hown hK hI g_a rfl 3 (by decide) (hT _ w_52) (fun _ q => q) rfl d_AB_setLength_64 ?_
  refine lv_iload_n hx hb d_AB_setLength_67 rfl (lv_at hl 1 rfl) ?_
  refine lv_icmp_le (tgt := 76) hx hb d_AB_setLength_68 (by decide) (fun c_4 => ?_) (fun c_4 => ?_)
  · have c_4 : n ≤ 0 := (n_le (a := n) (b := 0) (by omega) (by omega)).mp c_4
    refine lv_aload_n hx hb d_AB_setLength_76 rfl (lv_at hl 0 rfl) ?_
    refine lv_iload_n hx hb d_AB_setLength_77 rfl (lv_at hl 1 rfl) ?_
    refine f_put (C := "java/lang/StringBuilder") (T := T_SB) (N := 4) (fs' := [.ref b2, .int 0, .int ml, .int 0]) (v := .int 0) hx hb (fun w q => hT w (s_SB w q)) t_SB k_SB n_SB hown hK hI g_a hr0 rfl 3 (by decide) (hT _ w_52) (fun _ q => q) rfl rfl rfl (Nat.le_of_ble_eq_true rfl) rfl d_AB_setLength_78 (fun H locs hI => ?_)
    generalize eh_5 : fU h9 a (r, o, .inr (9, [.ref b2, .int 0, .int ml, .int 0])) = h_5 at hI
    have hX := hX.set (e := .inr (9, [.ref b2, .int 0, .int ml, .int 0])) g_a hr0; rw [eh_5] at hX
    have hF := hF.set (e := .inr (9, [.ref b2, .int 0, .int ml, .int 0])) g_a (show r ∈ [r, r2] from by simp); rw [eh_5] at hF
    have g_b2 : h_5 b2 = some (r2, o, .inl ((G.2.1 3), (gw mm 0), .inl f2)) := (congrFun eh_5 b2).symm.trans (fU_keep g_b2 (f_neR g_b2 g_a (Ne.symm hrr)))
    have g_a : h_5 a = some (r, o, .inr (9, [.ref b2, .int 0, .int ml, .int 0])) := (congrFun eh_5 a).symm.trans (fU_self _ _ _)
    exact f_vret C hr hI ⟨⟨b2, _, f2, g_a, by rw [← ew]; exact g_b2, fun j hj => absurd hj (Nat.not_lt_zero j), hf2, by omega, by omega, by omega⟩, hF⟩ hX (by (try dsimp only); omega) (by (try dsimp only); omega) d_AB_setLength_81
  · have c_4 : ¬ n ≤ 0 := fun q => c_4 ((n_le (a := n) (b := 0) (by omega) (by omega)).mpr q)
    refine lv_aload_n hx hb d_AB_setLength_71 rfl (lv_at hl 0 rfl) ?_
    refine lv_iconst (v := 1) hx hb d_AB_setLength_72 (by decide) ?_
    refine f_put (C := "java/lang/StringBuilder") (T := T_SB) (N := 4) (fs' := [.ref b2, .int 0, .int 1, .int (nI n)]) (v := .int 1) hx hb (fun w q => hT w (s_SB w q)) t_SB k_SB n_SB hown hK hI g_a hr0 rfl 2 (by decide) (hT _ w_50) (fun _ q => q) rfl rfl rfl (Nat.le_of_ble_eq_true rfl) rfl d_AB_setLength_73 (fun H locs hI => ?_)
    generalize eh_6 : fU h9 a (r, o, .inr (9, [.ref b2, .int 0, .int 1, .int (nI n)])) = h_6 at hI
    have hX := hX.set (e := .inr (9, [.ref b2, .int 0, .int 1, .int (nI n)])) g_a hr0; rw [eh_6] at hX
    have hF := hF.set (e := .inr (9, [.ref b2, .int 0, .int 1, .int (nI n)])) g_a (show r ∈ [r, r2] from by simp); rw [eh_6] at hF
    have g_b2 : h_6 b2 = some (r2, o, .inl ((G.2.1 3), (gw mm 0), .inl f2)) := (congrFun eh_6 b2).symm.trans (fU_keep g_b2 (f_neR g_b2 g_a (Ne.symm hrr)))
    have g_a : h_6 a = some (r, o, .inr (9, [.ref b2, .int 0, .int 1, .int (nI n)])) := (congrFun eh_6 a).symm.trans (fU_self _ _ _)
    refine lv_aload_n hx hb d_AB_setLength_76 rfl (lv_at hl 0 rfl) ?_
    refine lv_iload_n hx hb d_AB_setLength_77 rfl (lv_at hl 1 rfl) ?_
    refine f_put (C := "java/lang/StringBuilder") (T := T_SB) (N := 4) (fs' := [.ref b2, .int 0, .int 1, .int 0]) (v := .int 0) hx hb (fun w q => hT w (s_SB w q)) t_SB k_SB n_SB hown hK hI g_a hr0 rfl 3 (by decide) (hT _ w_52) (fun _ q => q) rfl rfl rfl (Nat.le_of_ble_eq_true rfl) rfl d_AB_setLength_78 (fun H locs hI => ?_)
    generalize eh_7 : fU h_6 a (r, o, .inr (9, [.ref b2, .int 0, .int 1, .int 0])) = h_7 at hI
    have hX := hX.set (e := .inr (9, [.ref b2, .int 0, .int 1, .int 0])) g_a hr0; rw [eh_7] at hX
    have hF := hF.set (e := .inr (9, [.ref b2, .int 0, .int 1, .int 0])) g_a (show r ∈ [r, r2] from by simp); rw [eh_7] at hF
    have g_b2 : h_7 b2 = some (r2, o, .inl ((G.2.1 3), (gw mm 0), .inl f2)) := (congrFun eh_7 b2).symm.trans (fU_keep g_b2 (f_neR g_b2 g_a (Ne.symm hrr)))
    have g_a : h_7 a = some (r, o, .inr (9, [.ref b2, .int 0, .int 1, .int 0])) := (congrFun eh_7 a).symm.trans (fU_self _ _ _)
    exact f_vret C hr hI ⟨⟨b2, _, f2, g_a, by rw [← ew]; exact g_b2, fun j hj => absurd hj (Nat.not_lt_zero j), hf2, by omega, by omega, by omega⟩, hF⟩ hX (by (try dsimp only); omega) (by (try dsimp only); omega) d_AB_setLength_81
theorem gm_SB_setLength : gM y_SB_setLength b_SB_setLength 2 none 1 := ⟨w_411, w_3, ⟨by decide, by decide⟩, by decide +kernel⟩
set_option maxHeartbeats 4000000 in
set_option maxRecDepth 100000 in
/-- SB_setLength  -/
theorem c_SB_setLength (l : Launch) (G : gG) (h : fH) (sz : Nat) (a r r2 o mm n : Nat) (tx : Nat → Nat) (hr0 : r ≠ 0) (hr2 : r2 ≠ 0) (hrr : r ≠ r2) (hB : bS G h r r2 o a mm n tx) : cM l y_SB_setLength b_SB_setLength 2 none { frames := 5, cells := 0, slots := 0, locals := 112 } G [.ref a, .int 0] h sz (cQv G h sz (fun h' => bS G h' r r2 o a mm 0 tx ∧ fF (inR [r, r2]) h h')) := by
  refine f_start (by decide) (Nat.le_of_ble_eq_true rfl) ?_
  intro p e s m below meth c ls C hr hsz hI hl
  obtain ⟨hx, hb, hml, hown, hnm, hlk, hT, hG, hZ⟩ := id C
  have hK := hG.1
  have hX : fX h sz h := fX.rf
  have hl : lv_has ls 2 [(0, .ref a), (1, .int 0)] := hl
  obtain ⟨b, ml, f, g_a, g_b, hL, hf, bn, b16, bm0⟩ := id hB
  refine lv_aload_n hx hb d_SB_setLength_0 rfl (lv_at hl 0 rfl) ?_
  refine lv_iload_n hx hb d_SB_setLength_1 rfl (lv_at hl 1 rfl) ?_
  have hzA := hI.2.2.2.1
  refine f_callv hI (f_runSU C hI (c_AB_setLength l G h _ a r r2 o mm n tx hr0 hr2 hrr hB) gm_AB_setLength w_413 w_1102 w_61 (by decide) w_412 g_a rfl rfl hl.1 rfl (Nat.le_of_ble_eq_true rfl) ⟨Nat.le_of_ble_eq_true rfl, Nat.le_of_ble_eq_true rfl⟩ d_SB_setLength_2 ⟨by (try dsimp only); omega, by (try dsimp only); omega⟩) (fun h9 H9 locs hp9 hX9 hz9 hI => ?_)
  obtain ⟨hB9, hF9⟩ := hp9
  have hX := fX.tr (Nat.le_trans (Nat.le_of_eq hsz.symm) hzA) hX hX9
  exact f_vret C hr hI ⟨hB9, hF9⟩ hX (by (try dsimp only); omega) (by (try dsimp only); omega) d_SB_setLength_5
theorem gm_AB_init : gM y_AB_init b_AB_init 2 none 1 := ⟨w_37, w_2, ⟨by decide, by decide⟩, by decide +kernel⟩
set_option maxHeartbeats 4000000 in
set_option maxRecDepth 100000 in
/-- AB_init  -/
theorem c_AB_init (l : Launch) (G : gG) (h : fH) (sz : Nat) (a r r2 o : Nat) (hr0 : r ≠ 0) (hr2 : r2 ≠ 0) (hrr : r ≠ r2) (g_a : h a = some (r, o, .inr (9, [.null, .int 0, .int 0, .int 0]))) : cM l y_AB_init b_AB_init 2 none { frames := 1, cells := 1, slots := 16, locals := 20 } G [.ref a, .int 16] h sz (cQv G h sz (fun h' => bS G h' r r2 o a 16 0 (fun _ => 0) ∧ fF (inR [r]) h h')) := by
  refine f_start (by decide) (Nat.le_of_ble_eq_true rfl) ?_
  intro p e s m below meth c ls C hr hsz hI hl
  obtain ⟨hx, hb, hml, hown, hnm, hlk, hT, hG, hZ⟩ := id C
  have hK := hG.1
  have hX : fX h sz h := fX.rf
  have hl : lv_has ls 2 [(0, .ref a), (1, .int 16)] := hl
  have hz0 : va_Z "java/lang/String" "COMPACT_STRINGS" "Z" (.int 1) (fA h sz) s s.heap := hZ _ (List.mem_of_getElem? (i := 0) rfl)
  have hF : fF (inR [r]) h h := fF.rf
  refine lv_aload_n hx hb d_AB_init_0 rfl (lv_at hl 0 rfl) ?_
  refine W.objInit hx hb hown (hT _ w_38) (hT _ w_28) (hT _ w_29) rfl (by rw [hml]; exact hl.1) rfl d_AB_init_1 (Nat.le_of_ble_eq_true rfl) (Nat.le_of_ble_eq_true rfl) ?_
  refine W.eq (g2 := F0 m 4 ls []) rfl ?_
  refine va_gets (v := .int 1) hx hb hz0 hI.2.2.2 hown (hT _ w_39) (fun _ q => q) d_AB_init_4 ?_
  refine lv_if_eq (tgt := 25) hx hb d_AB_init_7 (by decide) (fun c_1 => absurd c_1 (by decide)) (fun c_1 => ?_)
  refine lv_aload_n hx hb d_AB_init_10 rfl (lv_at hl 0 rfl) ?_
  refine lv_iload_n hx hb d_AB_init_11 rfl (lv_at hl 1 rfl) ?_
  have hzN := hI.2.2.2.1
  refine f_newa (atype := .byte) (a0 := (16, .inl (fun _ => 0))) (cA := (G.2.1 3)) hx hb (hT _ w_62) rfl hI (hK.2 3 _ rfl).2 rfl (by decide) rfl (by decide) r2 o (Nat.le_of_ble_eq_true rfl) (Nat.le_of_ble_eq_true rfl) d_AB_init_12 (fun q_2 H eq_2 zq_2 nq_2 hI => ?_)
  generalize eh_3 : fU h q_2 (r2, o, .inl ((G.2.1 3), 16, .inl (fun _ => 0))) = h_3 at hI
  have hX := hX.new (e := .inl ((G.2.1 3), 16, .inl (fun _ => 0))) (r := r2) (o := o) nq_2 (by omega); rw [eh_3] at hX
  have hF := hF.new (c := (r2, o, .inl ((G.2.1 3), 16, .inl (fun _ => 0)))) nq_2; rw [eh_3] at hF
  have g_a : h_3 a = some (r, o, .inr (9, [.null, .int 0, .int 0, .int 0])) := (congrFun eh_3 a).symm.trans (fU_keep g_a (f_neN g_a nq_2))
  have g_q_2 : h_3 q_2 = some (r2, o, .inl ((G.2.1 3), 16, .inl (fun _ => 0))) := (congrFun eh_3 q_2).symm.trans (fU_self _ _ _)
  refine f_put (C := "java/lang/StringBuilder") (T := T_SB) (N := 4) (fs' := [.ref q_2, .int 0, .int 0, .int 0]) (v := .ref q_2) hx hb (fun w q => hT w (s_SB w q)) t_SB k_SB n_SB hown hK hI g_a hr0 rfl 0 (by decide) (hT _ w_48) (fun _ q => q) rfl rfl rfl (Nat.le_of_ble_eq_true rfl) rfl d_AB_init_14 (fun H locs hI => ?_)
  generalize eh_4 : fU h_3 a (r, o, .inr (9, [.ref q_2, .int 0, .int 0, .int 0])) = h_4 at hI
  have hX := hX.set (e := .inr (9, [.ref q_2, .int 0, .int 0, .int 0])) g_a hr0; rw [eh_4] at hX
  have hF := hF.set (e := .inr (9, [.ref q_2, .int 0, .int 0, .int 0])) g_a (show r ∈ [r] from by simp); rw [eh_4] at hF
  have g_q_2 : h_4 q_2 = some (r2, o, .inl ((G.2.1 3), 16, .inl (fun _ => 0))) := (congrFun eh_4 q_2).symm.trans (fU_keep g_q_2 (f_neR g_q_2 g_a (Ne.symm hrr)))
  have g_a : h_4 a = some (r, o, .inr (9, [.ref q_2, .int 0, .int 0, .int 0])) := (congrFun eh_4 a).symm.trans (fU_self _ _ _)
  refine lv_aload_n hx hb d_AB_init_17 rfl (lv_at hl 0 rfl) ?_
  refine lv_iconst (v := 0) hx hb d_AB_init_18 (by decide) ?_
  refine f_put (C := "java/lang/StringBuilder") (T := T_SB) (N := 4) (fs' := [.ref q_2, .int 0, .int 0, .int 0]) (v := .int 0) hx hb (fun w q => hT w (s_SB w q)) t_SB k_SB n_SB hown hK hI g_a hr0 rfl 1 (by decide) (hT _ w_49) (fun _ q => q) rfl rfl rfl (Nat.le_of_ble_eq_true rfl) rfl d_AB_init_19 (fun H locs hI => ?_)
  generalize eh_5 : fU h_4 a (r, o, .inr (9, [.ref q_2, .int 0, .int 0, .int 0])) = h_5 at hI
  have hX := hX.set (e := .inr (9, [.ref q_2, .int 0, .int 0, .int 0])) g_a hr0; rw [eh_5] at hX
  have hF := hF.set (e := .inr (9, [.ref q_2, .int 0, .int 0, .int 0])) g_a (show r ∈ [r] from by simp); rw [eh_5] at hF
  have g_q_2 : h_5 q_2 = some (r2, o, .inl ((G.2.1 3), 16, .inl (fun _ => 0))) := (congrFun eh_5 q_2).symm.trans (fU_keep g_q_2 (f_neR g_q_2 g_a (Ne.symm hrr)))
  have g_a : h_5 a = some (r, o, .inr (9, [.ref q_2, .int 0, .int 0, .int 0])) := (congrFun eh_5 a).symm.trans (fU_self _ _ _)
  refine lv_goto (tgt := 38) hx hb d_AB_init_22 (by decide) ?_
  exact f_vret C hr hI ⟨⟨q_2, _, fun _ => 0, g_a, g_q_2, fun j hj => absurd hj (Nat.not_lt_zero j), sb_fit0, by decide, by decide, by decide⟩, hF⟩ hX (Nat.le_of_ble_eq_true rfl) (Nat.le_of_ble_eq_true rfl) d_AB_init_38
theorem gm_SB_init : gM y_SB_init b_SB_init 1 none 0 := ⟨w_34, w_3, ⟨by decide, by decide⟩, by decide +kernel⟩
set_option maxHeartbeats 4000000 in
set_option maxRecDepth 100000 in
/-- SB_init  -/
theorem c_SB_init (l : Launch) (G : gG) (h : fH) (sz : Nat) (a r r2 o : Nat) (hr0 : r ≠ 0) (hr2 : r2 ≠ 0) (hrr : r ≠ r2) (g_a : h a = some (r, o, .inr (9, [.null, .int 0, .int 0, .int 0]))) : cM l y_SB_init b_SB_init 1 none { frames := 2, cells := 1, slots := 16, locals := 41 } G [.ref a] h sz (cQv G h sz (fun h' => bS G h' r r2 o a 16 0 (fun _ => 0) ∧ fF (inR [r]) h h')) := by
  refine f_start (by decide) (Nat.le_of_ble_eq_true rfl) ?_
  intro p e s m below meth c ls C hr hsz hI hl
  obtain ⟨hx, hb, hml, hown, hnm, hlk, hT, hG, hZ⟩ := id C
  have hK := hG.1
  have hX : fX h sz h := fX.rf
  have hl : lv_has ls 1 [(0, .ref a)] := hl
  refine lv_aload_n hx hb d_SB_init_0 rfl (lv_at hl 0 rfl) ?_
  refine lv_bipush (v := 16) hx hb d_SB_init_1 (by decide) ?_
  have hzA := hI.2.2.2.1
  refine f_callv hI (f_runI C hI (c_AB_init l G h _ a r r2 o hr0 hr2 hrr g_a) gm_AB_init w_36 rfl w_35 rfl hl.1 rfl (Nat.le_of_ble_eq_true rfl) ⟨Nat.le_of_ble_eq_true rfl, Nat.le_of_ble_eq_true rfl⟩ d_SB_init_3 ⟨Nat.le_of_ble_eq_true rfl, Nat.le_of_ble_eq_true rfl⟩) (fun h9 H9 locs hp9 hX9 hz9 hI => ?_)
  obtain ⟨hB9, hF9⟩ := hp9
  have hX := fX.tr (Nat.le_trans (Nat.le_of_eq hsz.symm) hzA) hX hX9
  exact f_vret C hr hI ⟨hB9, hF9⟩ hX (Nat.le_of_ble_eq_true rfl) (Nat.le_of_ble_eq_true rfl) d_SB_init_6
