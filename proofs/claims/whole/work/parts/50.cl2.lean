theorem gm_WO_isEnd : gM y_WO_isEnd b_WO_isEnd 1 (some .boolean) 0 := ⟨w_434, w_17, ⟨by decide, by decide⟩, by decide +kernel⟩
set_option maxHeartbeats 4000000 in
set_option maxRecDepth 100000 in
/-- WO_isEnd  -/
theorem c_WO_isEnd (l : Launch) (G : gG) (h : fH) (sz : Nat) (x t rw b e0 : Nat) (wv : Int32) (g_x : h x = some (rw, 0, .inr (7, [.ref t, .int (nI b), .int (nI e0), .int wv]))) (bb : b < 2 ^ 31) (be : e0 < 2 ^ 31) : cM l y_WO_isEnd b_WO_isEnd 1 (some .boolean) { frames := 0, cells := 0, slots := 0, locals := 0 } G [.ref x] h sz (cQi G h sz (fun z h' => ((z = 1 ∧ b = e0) ∨ (z = 0 ∧ ¬ b = e0)) ∧ h' = h)) := by
  refine f_start (by decide) (Nat.le_of_ble_eq_true rfl) ?_
  intro p e s m below meth c ls C hr hsz hI hl
  obtain ⟨hx, hb, hml, hown, hnm, hlk, hT, hG, hZ⟩ := id C
  have hK := hG.1
  have hX : fX h sz h := fX.rf
  have hl : lv_has ls 1 [(0, .ref x)] := hl
  refine lv_aload_n hx hb d_WO_isEnd_0 rfl (lv_at hl 0 rfl) ?_
  refine f_get (C := "DutyRules$Words") (T := T_WO) (N := 4) hx hb (fun w q => hT w (s_WO w q)) hown hK hI g_x rfl 1 (by decide) (hT _ w_395) (fun _ q => q) rfl d_WO_isEnd_1 ?_
  refine lv_aload_n hx hb d_WO_isEnd_4 rfl (lv_at hl 0 rfl) ?_
  refine f_get (C := "DutyRules$Words") (T := T_WO) (N := 4) hx hb (fun w q => hT w (s_WO w q)) hown hK hI g_x rfl 2 (by decide) (hT _ w_396) (fun _ q => q) rfl d_WO_isEnd_5 ?_
  refine lv_icmp_ne (tgt := 15) hx hb d_WO_isEnd_8 (by decide) (fun c_1 => ?_) (fun c_1 => ?_)
  · have c_1 : ¬ b = e0 := fun q => c_1 ((n_eq (a := b) (b := e0) (by omega) (by omega)).mpr q)
    refine lv_iconst (v := 0) hx hb d_WO_isEnd_15 (by decide) ?_
    exact f_zret C hr rfl hI ⟨Or.inr ⟨rfl, c_1⟩, rfl⟩ hX (Nat.le_refl _) (Nat.le_refl _) d_WO_isEnd_16
  · have c_1 : b = e0 := (n_eq (a := b) (b := e0) (by omega) (by omega)).mp c_1
    refine lv_iconst (v := 1) hx hb d_WO_isEnd_11 (by decide) ?_
    refine lv_goto (tgt := 16) hx hb d_WO_isEnd_12 (by decide) ?_
    exact f_zret C hr rfl hI ⟨Or.inl ⟨rfl, c_1⟩, rfl⟩ hX (Nat.le_refl _) (Nat.le_refl _) d_WO_isEnd_16
theorem gm_WO_firstByte : gM y_WO_firstByte b_WO_firstByte 1 (some .char) 0 := ⟨w_471, w_17, ⟨by decide, by decide⟩, by decide +kernel⟩
set_option maxHeartbeats 4000000 in
set_option maxRecDepth 100000 in
/-- WO_firstByte  -/
theorem c_WO_firstByte (l : Launch) (G : gG) (h : fH) (sz : Nat) (x t rw b e0 : Nat) (wv : Int32) (tn rt rt2 ot : Nat) (tx : Nat → Nat) (g_x : h x = some (rw, 0, .inr (7, [.ref t, .int (nI b), .int (nI e0), .int wv]))) (hT1 : sT G h rt rt2 ot t tx tn) (bb : b < 2 ^ 31) : cM l y_WO_firstByte b_WO_firstByte 1 (some .char) { frames := 4, cells := 0, slots := 0, locals := 85 } G [.ref x] h sz (cQi G h sz (fun z h' => z = nI (if b < tn then tx b else 32) ∧ h' = h)) := by
  refine f_start (by decide) (Nat.le_of_ble_eq_true rfl) ?_
  intro p e s m below meth c ls C hr hsz hI hl
  obtain ⟨hx, hb, hml, hown, hnm, hlk, hT, hG, hZ⟩ := id C
  have hK := hG.1
  have hX : fX h sz h := fX.rf
  have hl : lv_has ls 1 [(0, .ref x)] := hl
  obtain ⟨tb, tc, tf, tfs, g_t, g_tb, htc, btn, htx⟩ := id hT1
  have hxl : ∀ i, i < tn → tx i < 256 := fun i hi => (htx i hi).1
  refine lv_aload_n hx hb d_WO_firstByte_0 rfl (lv_at hl 0 rfl) ?_
  refine f_get (C := "DutyRules$Words") (T := T_WO) (N := 4) hx hb (fun w q => hT w (s_WO w q)) hown hK hI g_x rfl 1 (by decide) (hT _ w_395) (fun _ q => q) rfl d_WO_firstByte_1 ?_
  refine lv_aload_n hx hb d_WO_firstByte_4 rfl (lv_at hl 0 rfl) ?_
  refine f_get (C := "DutyRules$Words") (T := T_WO) (N := 4) hx hb (fun w q => hT w (s_WO w q)) hown hK hI g_x rfl 0 (by decide) (hT _ w_394) (fun _ q => q) rfl d_WO_firstByte_5 ?_
  refine f_calli hI (f_runV C hI (c_ST_len l G h _ rt rt2 ot t tn tx hT1) gm_ST_length w_369 w_370 w_368 g_t rfl rfl rfl hl.1 rfl (Nat.le_of_ble_eq_true rfl) ⟨Nat.le_of_ble_eq_true rfl, Nat.le_of_ble_eq_true rfl⟩ d_WO_firstByte_8 ⟨Nat.le_of_ble_eq_true rfl, Nat.le_of_ble_eq_true rfl⟩) (fun r_1 h8 H9 locs hp9 hX9 hz9 hI => ?_)
  obtain ⟨rfl, e9⟩ := hp9
  rw [e9] at hI
  clear hX9 e9
  refine lv_icmp_ge (tgt := 28) hx hb d_WO_firstByte_11 (by decide) (fun c_2 => ?_) (fun c_2 => ?_)
  · have c_2 : tn ≤ b := (n_le (a := tn) (b := b) (by omega) (by omega)).mp c_2
    refine lv_bipush (v := 32) hx hb d_WO_firstByte_28 (by decide) ?_
    exact f_zret C hr rfl hI ⟨by rw [if_neg (show ¬ b < tn by omega)]; rfl, rfl⟩ hX (Nat.le_refl _) (Nat.le_refl _) d_WO_firstByte_30
  · have c_2 : ¬ tn ≤ b := fun q => c_2 ((n_le (a := tn) (b := b) (by omega) (by omega)).mpr q)
    refine lv_aload_n hx hb d_WO_firstByte_14 rfl (lv_at hl 0 rfl) ?_
    refine f_get (C := "DutyRules$Words") (T := T_WO) (N := 4) hx hb (fun w q => hT w (s_WO w q)) hown hK hI g_x rfl 0 (by decide) (hT _ w_394) (fun _ q => q) rfl d_WO_firstByte_15 ?_
    refine lv_aload_n hx hb d_WO_firstByte_18 rfl (lv_at hl 0 rfl) ?_
    refine f_get (C := "DutyRules$Words") (T := T_WO) (N := 4) hx hb (fun w q => hT w (s_WO w q)) hown hK hI g_x rfl 1 (by decide) (hT _ w_395) (fun _ q => q) rfl d_WO_firstByte_19 ?_
    refine f_calli hI (f_runV C hI (c_ST_at l G h _ rt rt2 ot t b tn tx hT1 (by omega)) gm_ST_charAt w_377 w_378 w_376 g_t rfl rfl rfl hl.1 rfl (Nat.le_of_ble_eq_true rfl) ⟨Nat.le_of_ble_eq_true rfl, Nat.le_of_ble_eq_true rfl⟩ d_WO_firstByte_22 ⟨Nat.le_of_ble_eq_true rfl, Nat.le_of_ble_eq_true rfl⟩) (fun r_3 h8 H9 locs hp9 hX9 hz9 hI => ?_)
    obtain ⟨rfl, e9⟩ := hp9
    rw [e9] at hI
    clear hX9 e9
    refine lv_goto (tgt := 30) hx hb d_WO_firstByte_25 (by decide) ?_
    exact f_zret C hr (pk_charN (q := tx b) (by have := hxl b (by omega); omega)).1 hI ⟨by rw [if_pos (show b < tn by omega)], rfl⟩ hX (Nat.le_refl _) (Nat.le_refl _) d_WO_firstByte_30
theorem gm_WO_asNumber : gM y_WO_asNumber b_WO_asNumber 5 (some .int) 0 := ⟨w_478, w_17, ⟨by decide, by decide⟩, by decide +kernel⟩
set_option maxHeartbeats 4000000 in
set_option maxRecDepth 100000 in
/-- WO_asNumber  -/
theorem c_WO_asNumber (l : Launch) (G : gG) (h : fH) (sz : Nat) (x t rw b e0 : Nat) (wv : Int32) (tn rt rt2 ot : Nat) (tx : Nat → Nat) (g_x : h x = some (rw, 0, .inr (7, [.ref t, .int (nI b), .int (nI e0), .int wv]))) (hT1 : sT G h rt rt2 ot t tx tn) (bb : b ≤ e0) (be : e0 ≤ tn) : cM l y_WO_asNumber b_WO_asNumber 5 (some .int) { frames := 5, cells := 0, slots := 0, locals := 105 } G [.ref x] h sz (cQi G h sz (fun z h' => z = oN (nm tx b e0) ∧ h' = h)) := by
  refine f_start (by decide) (Nat.le_of_ble_eq_true rfl) ?_
  intro p e s m below meth c ls C hr hsz hI hl
  obtain ⟨hx, hb, hml, hown, hnm, hlk, hT, hG, hZ⟩ := id C
  have hK := hG.1
  have hX : fX h sz h := fX.rf
  have hl : lv_has ls 5 [(0, .ref x)] := hl
  obtain ⟨tb, tc, tf, tfs, g_t, g_tb, htc, btn, htx⟩ := id hT1
  have hxl : ∀ i, i < tn → tx i < 256 := fun i hi => (htx i hi).1
  have J44 : e0 - b ≤ 9 → ∀ (k i t9 v : Nat), i + k = e0 → nm tx b e0 = dv tx i k v → i = b + t9 → v < 10 ^ t9 → ∀ (H : Heap) (locs : List Loc), fI G.1 g_cl (fA h sz) s.heap h H locs → ∀ ls : Array Slot, lv_has ls 5 [(0, .ref x), (2, .int (nI v)), (3, .int (nI i))] → W p l e { frames := 5, cells := 0, slots := 0, locals := 105 } s m ([.ref x] : List Value).toArray below meth c H locs 0 0 (MQ below (cQi G h sz (fun z h' => z = oN (nm tx b e0) ∧ h' = h)) ([.ref x] : List Value).toArray s 0 0 (fA h sz)) (F0 m 44 ls []) := by
    intro h9 k
    induction k with
    | zero =>
      intro i t9 v hi hd hit hv H locs hI ls hl
      have hv9 := p9 hv (by omega)
      have hd : nm tx b e0 = some v := hd
      refine lv_iload_n hx hb d_WO_asNumber_44 rfl (lv_at hl 2 rfl) ?_
      refine lv_aload_n hx hb d_WO_asNumber_45 rfl (lv_at hl 0 rfl) ?_
      refine f_get (C := "DutyRules$Words") (T := T_WO) (N := 4) hx hb (fun w q => hT w (s_WO w q)) hown hK hI g_x rfl 2 (by decide) (hT _ w_396) (fun _ q => q) rfl d_WO_asNumber_46 ?_
      refine lv_icmp_ge (tgt := 95) hx hb d_WO_asNumber_49 (by decide) (fun c_1 => ?_) (fun c_1 => absurd ((n_le (a := e0) (b := i) (by omega) (by omega)).mpr (by omega)) c_1)
      refine lv_iload_n hx hb d_WO_asNumber_95 rfl (lv_at hl 1 rfl) ?_
      exact f_iret C hr hI ⟨by rw [hd]; rfl, rfl⟩ hX (Nat.le_refl _) (Nat.le_refl _) d_WO_asNumber_96
    | succ k ih =>
      intro i t9 v hi hd hit hv H locs hI ls hl
      have ih : ∀ i t9 v : Nat, i + k = e0 → nm tx b e0 = dv tx i k v → i = b + t9 → v < 10 ^ t9 → ∀ (H : Heap) (locs : List Loc), fI G.1 g_cl (fA h sz) s.heap h H locs → ∀ ls : Array Slot, lv_has ls 5 [(0, .ref x), (2, .int (nI v)), (3, .int (nI i))] → W p l e { frames := 5, cells := 0, slots := 0, locals := 105 } s m ([.ref x] : List Value).toArray below meth c H locs 0 0 (MQ below (cQi G h sz (fun z h' => z = oN (nm tx b e0) ∧ h' = h)) ([.ref x] : List Value).toArray s 0 0 (fA h sz)) (F0 m 44 ls []) := ih
      have hv9 := p9 hv (by omega)
      have hx2 := hxl i (by omega)
      refine lv_iload_n hx hb d_WO_asNumber_44 rfl (lv_at hl 2 rfl) ?_
      refine lv_aload_n hx hb d_WO_asNumber_45 rfl (lv_at hl 0 rfl) ?_
      refine f_get (C := "DutyRules$Words") (T := T_WO) (N := 4) hx hb (fun w q => hT w (s_WO w q)) hown hK hI g_x rfl 2 (by decide) (hT _ w_396) (fun _ q => q) rfl d_WO_asNumber_46 ?_
      refine lv_icmp_ge (tgt := 95) hx hb d_WO_asNumber_49 (by decide) (fun c_2 => absurd c_2 (fun q => absurd ((n_le (a := e0) (b := i) (by omega) (by omega)).mp q) (by omega))) (fun c_2 => ?_)
      refine lv_aload_n hx hb d_WO_asNumber_52 rfl (lv_at hl 0 rfl) ?_
      refine f_get (C := "DutyRules$Words") (T := T_WO) (N := 4) hx hb (fun w q => hT w (s_WO w q)) hown hK hI g_x rfl 0 (by decide) (hT _ w_394) (fun _ q => q) rfl d_WO_asNumber_53 ?_
      refine lv_iload_n hx hb d_WO_asNumber_56 rfl (lv_at hl 2 rfl) ?_
      refine f_calli hI (f_runV C hI (c_ST_at l G h _ rt rt2 ot t i tn tx hT1 (by omega)) gm_ST_charAt w_377 w_378 w_376 g_t rfl rfl rfl hl.1 rfl (Nat.le_of_ble_eq_true rfl) ⟨Nat.le_of_ble_eq_true rfl, Nat.le_of_ble_eq_true rfl⟩ d_WO_asNumber_57 ⟨Nat.le_of_ble_eq_true rfl, Nat.le_of_ble_eq_true rfl⟩) (fun r_3 h8 H9 locs hp9 hX9 hz9 hI => ?_)
      obtain ⟨rfl, e9⟩ := hp9
      rw [e9] at hI
      clear hX9 e9
      refine lv_istore (lv' := [(4, .int (nI (tx i))), (0, .ref x), (2, .int (nI v)), (3, .int (nI i))]) hx hb d_WO_asNumber_60 hl (by decide) rfl (fun ls hl => ?_)
      refine lv_iload hx hb d_WO_asNumber_62 (lv_at hl 0 rfl) ?_
      refine lv_bipush (v := 48) hx hb d_WO_asNumber_64 (by decide) ?_
      refine lv_icmp_lt (tgt := 76) hx hb d_WO_asNumber_66 (by decide) (fun c_4 => ?_) (fun c_4 => ?_)
      · have c_4 : (tx i) < 48 := (n_lt (a := (tx i)) (b := 48) (by omega) (by omega)).mp c_4
        refine lv_iconst (v := (-1)) hx hb d_WO_asNumber_76 (by decide) ?_
        exact f_iret C hr hI ⟨by rw [hd, show dv tx i (k + 1) v = none from if_neg (fun q => by omega)]; rfl, rfl⟩ hX (Nat.le_refl _) (Nat.le_refl _) d_WO_asNumber_77
      · have c_4 : ¬ (tx i) < 48 := fun q => c_4 ((n_lt (a := (tx i)) (b := 48) (by omega) (by omega)).mpr q)
        refine lv_iload hx hb d_WO_asNumber_69 (lv_at hl 0 rfl) ?_
        refine lv_bipush (v := 57) hx hb d_WO_asNumber_71 (by decide) ?_
        refine lv_icmp_le (tgt := 78) hx hb d_WO_asNumber_73 (by decide) (fun c_5 => ?_) (fun c_5 => ?_)
        · have c_5 : (tx i) ≤ 57 := (n_le (a := (tx i)) (b := 57) (by omega) (by omega)).mp c_5
          refine lv_iload_n hx hb d_WO_asNumber_78 rfl (lv_at hl 2 rfl) ?_
          refine lv_bipush (v := 10) hx hb d_WO_asNumber_79 (by decide) ?_
          refine lv_imul hx hb d_WO_asNumber_81 ?_
          refine f_asi (pk_mul v 10) ?_
          refine lv_iload hx hb d_WO_asNumber_82 (lv_at hl 0 rfl) ?_
          refine lv_bipush (v := 48) hx hb d_WO_asNumber_84 (by decide) ?_
          refine lv_isub hx hb d_WO_asNumber_86 ?_
          refine f_asi (pk_sub (a := (tx i)) (b := 48) (by omega)) ?_
          refine lv_iadd hx hb d_WO_asNumber_87 ?_
          refine f_asi (nI_add (v * 10) ((tx i) - 48)) ?_
          refine lv_istore_n (lv' := [(2, .int (nI ((v * 10) + ((tx i) - 48)))), (4, .int (nI (tx i))), (0, .ref x), (3, .int (nI i))]) hx hb d_WO_asNumber_88 rfl hl (by decide) rfl (fun ls hl => ?_)
          refine lv_iinc (v := nI (i + 1)) (lv' := [(3, .int (nI (i + 1))), (2, .int (nI ((v * 10) + ((tx i) - 48)))), (4, .int (nI (tx i))), (0, .ref x)]) hx hb d_WO_asNumber_89 hl (k := 3) rfl (f_inc1 _) (by decide) rfl (fun ls hl => ?_)
          refine lv_goto (tgt := 44) hx hb d_WO_asNumber_92 (by decide) ?_
          have hdg : 48 ≤ tx i ∧ tx i ≤ 57 := by omega
          refine ih (i + 1) (t9 + 1) (10 * v + tx i - 48) (by omega) (hd.trans (if_pos hdg)) (by omega) (by have := p10 (d := tx i - 48) hv (by omega); omega) _ _ hI ls ?_
          rw [show v * 10 + (tx i - 48) = 10 * v + tx i - 48 by omega] at hl
          have hl : lv_has ls 5 [(3, .int (nI (i + 1))), (2, .int (nI (10 * v + tx i - 48))), (4, .int (nI (tx i))), (0, .ref x)] := hl
          exact lv_sub hl [3, 1, 0] rfl
        · have c_5 : ¬ (tx i) ≤ 57 := fun q => c_5 ((n_le (a := (tx i)) (b := 57) (by omega) (by omega)).mpr q)
          refine lv_iconst (v := (-1)) hx hb d_WO_asNumber_76 (by decide) ?_
          exact f_iret C hr hI ⟨by rw [hd, show dv tx i (k + 1) v = none from if_neg (fun q => by omega)]; rfl, rfl⟩ hX (Nat.le_refl _) (Nat.le_refl _) d_WO_asNumber_77
  refine lv_aload_n hx hb d_WO_asNumber_0 rfl (lv_at hl 0 rfl) ?_
  refine f_get (C := "DutyRules$Words") (T := T_WO) (N := 4) hx hb (fun w q => hT w (s_WO w q)) hown hK hI g_x rfl 2 (by decide) (hT _ w_396) (fun _ q => q) rfl d_WO_asNumber_1 ?_
  refine lv_aload_n hx hb d_WO_asNumber_4 rfl (lv_at hl 0 rfl) ?_
  refine f_get (C := "DutyRules$Words") (T := T_WO) (N := 4) hx hb (fun w q => hT w (s_WO w q)) hown hK hI g_x rfl 1 (by decide) (hT _ w_395) (fun _ q => q) rfl d_WO_asNumber_5 ?_
  refine lv_isub hx hb d_WO_asNumber_8 ?_
  refine f_asi (pk_sub (a := e0) (b := b) (by omega)) ?_
  refine lv_istore_n (lv' := [(1, .int (nI (e0 - b))), (0, .ref x)]) hx hb d_WO_asNumber_9 rfl hl (by decide) rfl (fun ls hl => ?_)
  refine lv_iload_n hx hb d_WO_asNumber_10 rfl (lv_at hl 0 rfl) ?_
  refine lv_iconst (v := 1) hx hb d_WO_asNumber_11 (by decide) ?_
  refine lv_icmp_lt (tgt := 35) hx hb d_WO_asNumber_12 (by decide) (fun c_6 => ?_) (fun c_6 => ?_)
  · have c_6 : (e0 - b) < 1 := (n_lt (a := (e0 - b)) (b := 1) (by omega) (by omega)).mp c_6
    refine lv_iconst (v := (-1)) hx hb d_WO_asNumber_35 (by decide) ?_
    exact f_iret C hr hI ⟨by rw [show nm tx b e0 = none from if_pos (by omega)]; rfl, rfl⟩ hX (Nat.le_refl _) (Nat.le_refl _) d_WO_asNumber_36
  · have c_6 : ¬ (e0 - b) < 1 := fun q => c_6 ((n_lt (a := (e0 - b)) (b := 1) (by omega) (by omega)).mpr q)
    refine lv_iload_n hx hb d_WO_asNumber_15 rfl (lv_at hl 0 rfl) ?_
    refine lv_bipush (v := 9) hx hb d_WO_asNumber_16 (by decide) ?_
    refine lv_icmp_gt (tgt := 35) hx hb d_WO_asNumber_18 (by decide) (fun c_7 => ?_) (fun c_7 => ?_)
    · have c_7 : 9 < (e0 - b) := (n_lt (a := 9) (b := (e0 - b)) (by omega) (by omega)).mp c_7
      refine lv_iconst (v := (-1)) hx hb d_WO_asNumber_35 (by decide) ?_
      exact f_iret C hr hI ⟨by rw [show nm tx b e0 = none from if_pos (by omega)]; rfl, rfl⟩ hX (Nat.le_refl _) (Nat.le_refl _) d_WO_asNumber_36
    · have c_7 : ¬ 9 < (e0 - b) := fun q => c_7 ((n_lt (a := 9) (b := (e0 - b)) (by omega) (by omega)).mpr q)
      refine lv_iload_n hx hb d_WO_asNumber_21 rfl (lv_at hl 0 rfl) ?_
      refine lv_iconst (v := 1) hx hb d_WO_asNumber_22 (by decide) ?_
      refine lv_icmp_le (tgt := 37) hx hb d_WO_asNumber_23 (by decide) (fun c_8 => ?_) (fun c_8 => ?_)
      · have c_8 : (e0 - b) ≤ 1 := (n_le (a := (e0 - b)) (b := 1) (by omega) (by omega)).mp c_8
        refine lv_iconst (v := 0) hx hb d_WO_asNumber_37 (by decide) ?_
        refine lv_istore_n (lv' := [(2, .int 0), (1, .int (nI (e0 - b))), (0, .ref x)]) hx hb d_WO_asNumber_38 rfl hl (by decide) rfl (fun ls hl => ?_)
        refine lv_aload_n hx hb d_WO_asNumber_39 rfl (lv_at hl 2 rfl) ?_
        refine f_get (C := "DutyRules$Words") (T := T_WO) (N := 4) hx hb (fun w q => hT w (s_WO w q)) hown hK hI g_x rfl 1 (by decide) (hT _ w_395) (fun _ q => q) rfl d_WO_asNumber_40 ?_
        refine lv_istore_n (lv' := [(3, .int (nI b)), (2, .int 0), (1, .int (nI (e0 - b))), (0, .ref x)]) hx hb d_WO_asNumber_43 rfl hl (by decide) rfl (fun ls hl => ?_)
        refine J44 (by omega) (e0 - b) b 0 0 (by omega) (if_neg (fun q => by rcases q with q | q | q <;> omega)) (by omega) (by decide) _ _ hI ls ?_
        exact lv_sub hl [3, 1, 0] rfl
      · have c_8 : ¬ (e0 - b) ≤ 1 := fun q => c_8 ((n_le (a := (e0 - b)) (b := 1) (by omega) (by omega)).mpr q)
        refine lv_aload_n hx hb d_WO_asNumber_26 rfl (lv_at hl 1 rfl) ?_
        refine f_calli hI (f_runV C hI (c_WO_firstByte l G h _ x t rw b e0 wv tn rt rt2 ot tx g_x hT1 (by omega)) gm_WO_firstByte w_469 w_470 w_479 g_x rfl rfl rfl hl.1 rfl (Nat.le_of_ble_eq_true rfl) ⟨Nat.le_of_ble_eq_true rfl, Nat.le_of_ble_eq_true rfl⟩ d_WO_asNumber_27 ⟨Nat.le_of_ble_eq_true rfl, Nat.le_of_ble_eq_true rfl⟩) (fun r_9 h8 H9 locs hp9 hX9 hz9 hI => ?_)
        obtain ⟨rfl, e9⟩ := hp9
        rw [e9] at hI
        clear hX9 e9
        refine f_asi (congrArg nI (if_pos (show b < tn by omega))) ?_
        have hx2 := hxl b (by omega)
        refine lv_bipush (v := 48) hx hb d_WO_asNumber_30 (by decide) ?_
        refine lv_icmp_ne (tgt := 37) hx hb d_WO_asNumber_32 (by decide) (fun c_10 => ?_) (fun c_10 => ?_)
        · have c_10 : ¬ (tx b) = 48 := fun q => c_10 ((n_eq (a := (tx b)) (b := 48) (by omega) (by omega)).mpr q)
          refine lv_iconst (v := 0) hx hb d_WO_asNumber_37 (by decide) ?_
          refine lv_istore_n (lv' := [(2, .int 0), (1, .int (nI (e0 - b))), (0, .ref x)]) hx hb d_WO_asNumber_38 rfl hl (by decide) rfl (fun ls hl => ?_)
          refine lv_aload_n hx hb d_WO_asNumber_39 rfl (lv_at hl 2 rfl) ?_
          refine f_get (C := "DutyRules$Words") (T := T_WO) (N := 4) hx hb (fun w q => hT w (s_WO w q)) hown hK hI g_x rfl 1 (by decide) (hT _ w_395) (fun _ q => q) rfl d_WO_asNumber_40 ?_
          refine lv_istore_n (lv' := [(3, .int (nI b)), (2, .int 0), (1, .int (nI (e0 - b))), (0, .ref x)]) hx hb d_WO_asNumber_43 rfl hl (by decide) rfl (fun ls hl => ?_)
          refine J44 (by omega) (e0 - b) b 0 0 (by omega) (if_neg (fun q => by rcases q with q | q | q <;> omega)) (by omega) (by decide) _ _ hI ls ?_
          exact lv_sub hl [3, 1, 0] rfl
        · have c_10 : (tx b) = 48 := (n_eq (a := (tx b)) (b := 48) (by omega) (by omega)).mp c_10
          refine lv_iconst (v := (-1)) hx hb d_WO_asNumber_35 (by decide) ?_
          exact f_iret C hr hI ⟨by rw [show nm tx b e0 = none from if_pos (by omega)]; rfl, rfl⟩ hX (Nat.le_refl _) (Nat.le_refl _) d_WO_asNumber_36
theorem gm_WO_isSameWordAs : gM y_WO_isSameWordAs b_WO_isSameWordAs 4 (some .boolean) 1 := ⟨w_455, w_17, ⟨by decide, by decide⟩, by decide +kernel⟩
set_option maxHeartbeats 4000000 in
set_option maxRecDepth 100000 in
/-- WO_isSameWordAs  -/
theorem c_WO_isSameWordAs (l : Launch) (G : gG) (h : fH) (sz : Nat) (x t rw b e0 : Nat) (wv : Int32) (tn rt rt2 ot : Nat) (tx : Nat → Nat) (g_x : h x = some (rw, 0, .inr (7, [.ref t, .int (nI b), .int (nI e0), .int wv]))) (hT1 : sT G h rt rt2 ot t tx tn) (y t2 rv b2 e2 : Nat) (wv2 : Int32) (tn2 rtb rt2b ot2 : Nat) (tx2 : Nat → Nat) (g_y : h y = some (rv, 0, .inr (7, [.ref t2, .int (nI b2), .int (nI e2), .int wv2]))) (hT2 : sT G h rtb rt2b ot2 t2 tx2 tn2) (bb : b ≤ e0) (be : e0 ≤ tn) (bb2 : b2 ≤ e2) (be2 : e2 ≤ tn2) : cM l y_WO_isSameWordAs b_WO_isSameWordAs 4 (some .boolean) { frames := 4, cells := 0, slots := 0, locals := 85 } G [.ref x, .ref y] h sz (cQi G h sz (fun z h' => ((z = 1 ∧ (e0 - b = e2 - b2 ∧ ∀ j, j < e0 - b → tx (b + j) = tx2 (b2 + j))) ∨ (z = 0 ∧ ¬ (e0 - b = e2 - b2 ∧ ∀ j, j < e0 - b → tx (b + j) = tx2 (b2 + j)))) ∧ h' = h)) := by
  refine f_start (by decide) (Nat.le_of_ble_eq_true rfl) ?_
  intro p e s m below meth c ls C hr hsz hI hl
  obtain ⟨hx, hb, hml, hown, hnm, hlk, hT, hG, hZ⟩ := id C
  have hK := hG.1
  have hX : fX h sz h := fX.rf
  have hl : lv_has ls 4 [(0, .ref x), (1, .ref y)] := hl
  obtain ⟨tb, tc, tf, tfs, g_t, g_tb, htc, btn, htx⟩ := id hT1
  have hxl : ∀ i, i < tn → tx i < 256 := fun i hi => (htx i hi).1
  obtain ⟨tb2, tc2, tf2, tfs2, g_t2, g_tb2, htc2, btn2, htx2⟩ := id hT2
  have hxl2 : ∀ i, i < tn2 → tx2 i < 256 := fun i hi => (htx2 i hi).1
  have J27 : e0 - b = e2 - b2 → ∀ (k n : Nat), n + k = e0 - b → (∀ j, j < n → tx (b + j) = tx2 (b2 + j)) → ∀ (H : Heap) (locs : List Loc), fI G.1 g_cl (fA h sz) s.heap h H locs → ∀ ls : Array Slot, lv_has ls 4 [(0, .ref x), (1, .ref y), (2, .int (nI (e0 - b))), (3, .int (nI n))] → W p l e { frames := 4, cells := 0, slots := 0, locals := 85 } s m ([.ref x, .ref y] : List Value).toArray below meth c H locs 0 0 (MQ below (cQi G h sz (fun z h' => ((z = 1 ∧ (e0 - b = e2 - b2 ∧ ∀ j, j < e0 - b → tx (b + j) = tx2 (b2 + j))) ∨ (z = 0 ∧ ¬ (e0 - b = e2 - b2 ∧ ∀ j, j < e0 - b → tx (b + j) = tx2 (b2 + j)))) ∧ h' = h)) ([.ref x, .ref y] : List Value).toArray s 0 0 (fA h sz)) (F0 m 27 ls []) := by
    intro hlen k
    induction k with
    | zero =>
      intro n hn hall H locs hI ls hl
      refine lv_iload_n hx hb d_WO_isSameWordAs_27 rfl (lv_at hl 3 rfl) ?_
      refine lv_iload_n hx hb d_WO_isSameWordAs_28 rfl (lv_at hl 2 rfl) ?_
      refine lv_icmp_ge (tgt := 69) hx hb d_WO_isSameWordAs_29 (by decide) (fun c_1 => ?_) (fun c_1 => absurd ((n_le (a := e0 - b) (b := n) (by omega) (by omega)).mpr (by omega)) c_1)
      refine lv_iconst (v := 1) hx hb d_WO_isSameWordAs_69 (by decide) ?_
      exact f_zret C hr rfl hI ⟨Or.inl ⟨rfl, hlen, fun j hj => hall j (by omega)⟩, rfl⟩ hX (Nat.le_refl _) (Nat.le_refl _) d_WO_isSameWordAs_70
    | succ k ih =>
      intro n hn hall H locs hI ls hl
      have ih : ∀ n : Nat, n + k = e0 - b → (∀ j, j < n → tx (b + j) = tx2 (b2 + j)) → ∀ (H : Heap) (locs : List Loc), fI G.1 g_cl (fA h sz) s.heap h H locs → ∀ ls : Array Slot, lv_has ls 4 [(0, .ref x), (1, .ref y), (2, .int (nI (e0 - b))), (3, .int (nI n))] → W p l e { frames := 4, cells := 0, slots := 0, locals := 85 } s m ([.ref x, .ref y] : List Value).toArray below meth c H locs 0 0 (MQ below (cQi G h sz (fun z h' => ((z = 1 ∧ (e0 - b = e2 - b2 ∧ ∀ j, j < e0 - b → tx (b + j) = tx2 (b2 + j))) ∨ (z = 0 ∧ ¬ (e0 - b = e2 - b2 ∧ ∀ j, j < e0 - b → tx (b + j) = tx2 (b2 + j)))) ∧ h' = h)) ([.ref x, .ref y] : List Value).toArray s 0 0 (fA h sz)) (F0 m 27 ls []) := ih
      have hx1 := hxl (b + n) (by omega)
      have hx2 := hxl2 (b2 + n) (by omega)
      refine lv_iload_n hx hb d_WO_isSameWordAs_27 rfl (lv_at hl 3 rfl) ?_
      refine lv_iload_n hx hb d_WO_isSameWordAs_28 rfl (lv_at hl 2 rfl) ?_
      refine lv_icmp_ge (tgt := 69) hx hb d_WO_isSameWordAs_29 (by decide) (fun c_2 => absurd c_2 (fun q => absurd ((n_le (a := e0 - b) (b := n) (by omega) (by omega)).mp q) (by omega))) (fun c_2 => ?_)
      refine lv_aload_n hx hb d_WO_isSameWordAs_32 rfl (lv_at hl 0 rfl) ?_
      refine f_get (C := "DutyRules$Words") (T := T_WO) (N := 4) hx hb (fun w q => hT w (s_WO w q)) hown hK hI g_x rfl 0 (by decide) (hT _ w_394) (fun _ q => q) rfl d_WO_isSameWordAs_33 ?_
      refine lv_aload_n hx hb d_WO_isSameWordAs_36 rfl (lv_at hl 0 rfl) ?_
      refine f_get (C := "DutyRules$Words") (T := T_WO) (N := 4) hx hb (fun w q => hT w (s_WO w q)) hown hK hI g_x rfl 1 (by decide) (hT _ w_395) (fun _ q => q) rfl d_WO_isSameWordAs_37 ?_
      refine lv_iload_n hx hb d_WO_isSameWordAs_40 rfl (lv_at hl 3 rfl) ?_
      refine lv_iadd hx hb d_WO_isSameWordAs_41 ?_
      refine f_asi (nI_add b n) ?_
      refine f_calli hI (f_runV C hI (c_ST_at l G h _ rt rt2 ot t (b + n) tn tx hT1 (by omega)) gm_ST_charAt w_377 w_378 w_376 g_t rfl rfl rfl hl.1 rfl (Nat.le_of_ble_eq_true rfl) ⟨Nat.le_of_ble_eq_true rfl, Nat.le_of_ble_eq_true rfl⟩ d_WO_isSameWordAs_42 ⟨Nat.le_of_ble_eq_true rfl, Nat.le_of_ble_eq_true rfl⟩) (fun r_3 h8 H9 locs hp9 hX9 hz9 hI => ?_)
      obtain ⟨rfl, e9⟩ := hp9
      rw [e9] at hI
      clear hX9 e9
      refine lv_aload_n hx hb d_WO_isSameWordAs_45 rfl (lv_at hl 1 rfl) ?_
      refine f_get (C := "DutyRules$Words") (T := T_WO) (N := 4) hx hb (fun w q => hT w (s_WO w q)) hown hK hI g_y rfl 0 (by decide) (hT _ w_394) (fun _ q => q) rfl d_WO_isSameWordAs_46 ?_
      refine lv_aload_n hx hb d_WO_isSameWordAs_49 rfl (lv_at hl 1 rfl) ?_
      refine f_get (C := "DutyRules$Words") (T := T_WO) (N := 4) hx hb (fun w q => hT w (s_WO w q)) hown hK hI g_y rfl 1 (by decide) (hT _ w_395) (fun _ q => q) rfl d_WO_isSameWordAs_50 ?_
      refine lv_iload_n hx hb d_WO_isSameWordAs_53 rfl (lv_at hl 3 rfl) ?_
      refine lv_iadd hx hb d_WO_isSameWordAs_54 ?_
      refine f_asi (nI_add b2 n) ?_
      refine f_calli hI (f_runV C hI (c_ST_at l G h _ rtb rt2b ot2 t2 (b2 + n) tn2 tx2 hT2 (by omega)) gm_ST_charAt w_377 w_378 w_376 g_t2 rfl rfl rfl hl.1 rfl (Nat.le_of_ble_eq_true rfl) ⟨Nat.le_of_ble_eq_true rfl, Nat.le_of_ble_eq_true rfl⟩ d_WO_isSameWordAs_55 ⟨Nat.le_of_ble_eq_true rfl, Nat.le_of_ble_eq_true rfl⟩) (fun r_4 h8 H9 locs hp9 hX9 hz9 hI => ?_)
      obtain ⟨rfl, e9⟩ := hp9
      rw [e9] at hI
      clear hX9 e9
      refine lv_icmp_eq (tgt := 63) hx hb d_WO_isSameWordAs_58 (by decide) (fun c_5 => ?_) (fun c_5 => ?_)
      · have c_5 : (tx (b + n)) = (tx2 (b2 + n)) := (n_eq (a := (tx (b + n))) (b := (tx2 (b2 + n))) (by omega) (by omega)).mp c_5
        refine lv_iinc (v := nI (n + 1)) (lv' := [(3, .int (nI (n + 1))), (0, .ref x), (1, .ref y), (2, .int (nI (e0 - b)))]) hx hb d_WO_isSameWordAs_63 hl (k := 3) rfl (f_inc1 _) (by decide) rfl (fun ls hl => ?_)
        refine lv_goto (tgt := 27) hx hb d_WO_isSameWordAs_66 (by decide) ?_
        refine ih (n + 1) (by omega) (fun j hj => ?_) _ _ hI ls ?_
        · by_cases hjn : j = n
          · rw [hjn]; exact c_5
          · exact hall j (by omega)
        exact lv_sub hl [1, 2, 3, 0] rfl
      · have c_5 : ¬ (tx (b + n)) = (tx2 (b2 + n)) := fun q => c_5 ((n_eq (a := (tx (b + n))) (b := (tx2 (b2 + n))) (by omega) (by omega)).mpr q)
        refine lv_iconst (v := 0) hx hb d_WO_isSameWordAs_61 (by decide) ?_
        exact f_zret C hr rfl hI ⟨Or.inr ⟨rfl, fun q => c_5 (q.2 n (by omega))⟩, rfl⟩ hX (Nat.le_refl _) (Nat.le_refl _) d_WO_isSameWordAs_62
  refine lv_aload_n hx hb d_WO_isSameWordAs_0 rfl (lv_at hl 0 rfl) ?_
  refine f_get (C := "DutyRules$Words") (T := T_WO) (N := 4) hx hb (fun w q => hT w (s_WO w q)) hown hK hI g_x rfl 2 (by decide) (hT _ w_396) (fun _ q => q) rfl d_WO_isSameWordAs_1 ?_
  refine lv_aload_n hx hb d_WO_isSameWordAs_4 rfl (lv_at hl 0 rfl) ?_
  refine f_get (C := "DutyRules$Words") (T := T_WO) (N := 4) hx hb (fun w q => hT w (s_WO w q)) hown hK hI g_x rfl 1 (by decide) (hT _ w_395) (fun _ q => q) rfl d_WO_isSameWordAs_5 ?_
  refine lv_isub hx hb d_WO_isSameWordAs_8 ?_
  refine f_asi (pk_sub (a := e0) (b := b) (by omega)) ?_
  refine lv_istore_n (lv' := [(2, .int (nI (e0 - b))), (0, .ref x), (1, .ref y)]) hx hb d_WO_isSameWordAs_9 rfl hl (by decide) rfl (fun ls hl => ?_)
  refine lv_iload_n hx hb d_WO_isSameWordAs_10 rfl (lv_at hl 0 rfl) ?_
  refine lv_aload_n hx hb d_WO_isSameWordAs_11 rfl (lv_at hl 2 rfl) ?_
  refine f_get (C := "DutyRules$Words") (T := T_WO) (N := 4) hx hb (fun w q => hT w (s_WO w q)) hown hK hI g_y rfl 2 (by decide) (hT _ w_396) (fun _ q => q) rfl d_WO_isSameWordAs_12 ?_
  refine lv_aload_n hx hb d_WO_isSameWordAs_15 rfl (lv_at hl 2 rfl) ?_
  refine f_get (C := "DutyRules$Words") (T := T_WO) (N := 4) hx hb (fun w q => hT w (s_WO w q)) hown hK hI g_y rfl 1 (by decide) (hT _ w_395) (fun _ q => q) rfl d_WO_isSameWordAs_16 ?_
  refine lv_isub hx hb d_WO_isSameWordAs_19 ?_
  refine f_asi (pk_sub (a := e2) (b := b2) (by omega)) ?_
  refine lv_icmp_eq (tgt := 25) hx hb d_WO_isSameWordAs_20 (by decide) (fun c_6 => ?_) (fun c_6 => ?_)
  · have c_6 : (e0 - b) = (e2 - b2) := (n_eq (a := (e0 - b)) (b := (e2 - b2)) (by omega) (by omega)).mp c_6
    refine lv_iconst (v := 0) hx hb d_WO_isSameWordAs_25 (by decide) ?_
    refine lv_istore_n (lv' := [(3, .int 0), (2, .int (nI (e0 - b))), (0, .ref x), (1, .ref y)]) hx hb d_WO_isSameWordAs_26 rfl hl (by decide) rfl (fun ls hl => ?_)
    refine J27 c_6 (e0 - b) 0 (by omega) (fun j hj => absurd hj (Nat.not_lt_zero j)) _ _ hI ls ?_
    exact lv_sub hl [2, 3, 1, 0] rfl
  · have c_6 : ¬ (e0 - b) = (e2 - b2) := fun q => c_6 ((n_eq (a := (e0 - b)) (b := (e2 - b2)) (by omega) (by omega)).mpr q)
    refine lv_iconst (v := 0) hx hb d_WO_isSameWordAs_23 (by decide) ?_
    exact f_zret C hr rfl hI ⟨Or.inr ⟨rfl, fun q => c_6 q.1⟩, rfl⟩ hX (Nat.le_refl _) (Nat.le_refl _) d_WO_isSameWordAs_24
theorem gm_WO_advance : gM y_WO_advance b_WO_advance 2 none 0 := ⟨w_367, w_17, ⟨by decide, by decide⟩, by decide +kernel⟩
set_option maxHeartbeats 4000000 in
set_option maxRecDepth 100000 in
/-- WO_advance  -/
theorem c_WO_advance (l : Launch) (G : gG) (h : fH) (sz : Nat) (x t rw b e0 : Nat) (wv : Int32) (tn rt rt2 ot : Nat) (tx : Nat → Nat) (g_x : h x = some (rw, 0, .inr (7, [.ref t, .int (nI b), .int (nI e0), .int wv]))) (hT1 : sT G h rt rt2 ot t tx tn) (hrw : rw ≠ 0) (d1 : rt ≠ rw) (d2 : rt2 ≠ rw) (be : e0 ≤ tn) : cM l y_WO_advance b_WO_advance 2 none { frames := 4, cells := 0, slots := 0, locals := 85 } G [.ref x] h sz (cQv G h sz (fun h' => h' x = some (rw, 0, .inr (7, [.ref t, .int (nI (wb tx tn e0)), .int (nI (we tx tn (wb tx tn e0))), .int (wv + 1)])) ∧ fF (inR [rw]) h h')) := by
  refine f_start (by decide) (Nat.le_of_ble_eq_true rfl) ?_
  intro p e s m below meth c ls C hr hsz hI hl
  obtain ⟨hx, hb, hml, hown, hnm, hlk, hT, hG, hZ⟩ := id C
  have hK := hG.1
  have hX : fX h sz h := fX.rf
  have hl : lv_has ls 2 [(0, .ref x)] := hl
  obtain ⟨tb, tc, tf, tfs, g_t, g_tb, htc, btn, htx⟩ := id hT1
  have hxl : ∀ i, i < tn → tx i < 256 := fun i hi => (htx i hi).1
  have hF : fF (inR [rw]) h h := fF.rf
  obtain ⟨bq, hB⟩ : ∃ z, z = wb tx tn e0 := ⟨_, rfl⟩
  have hbl := wb_le (tx := tx) be
  obtain ⟨f0, hf0⟩ : ∃ z, z = fi (qE tx) bq (tn - bq) := ⟨_, rfl⟩
  have hfl := fi_le (P := qE tx) (tn - bq) bq
  have hwe := we_cls be hB hf0
  have J85 : ∀ (h1 : fH) (H : Heap) (locs : List Loc), h1 x = some (rw, 0, .inr (7, [.ref t, .int (nI bq), .int (nI e0), .int wv])) → fF (inR [rw]) h h1 → fX h sz h1 → fI G.1 g_cl (fA h sz) s.heap h1 H locs → ∀ ls : Array Slot, lv_has ls 2 [(0, .ref x), (1, .int (nI f0))] → W p l e { frames := 4, cells := 0, slots := 0, locals := 85 } s m ([.ref x] : List Value).toArray below meth c H locs 0 0 (MQ below (cQv G h sz (fun h' => h' x = some (rw, 0, .inr (7, [.ref t, .int (nI (wb tx tn e0)), .int (nI (we tx tn (wb tx tn e0))), .int (wv + 1)])) ∧ fF (inR [rw]) h h')) ([.ref x] : List Value).toArray s 0 0 (fA h sz)) (F0 m 85 ls []) := by
    intro h1 H locs g_x hF hX hI ls hl
    have hT1 := hT1.keepF hF (by simp [inR, d1]) (by simp [inR, d2])
    obtain ⟨tb, tc, tf, tfs, g_t, g_tb, htc, btn, htx⟩ := id hT1
    refine lv_iload_n hx hb d_WO_advance_85 rfl (lv_at hl 1 rfl) ?_
    refine lv_aload_n hx hb d_WO_advance_86 rfl (lv_at hl 0 rfl) ?_
    refine f_get (C := "DutyRules$Words") (T := T_WO) (N := 4) hx hb (fun w q => hT w (s_WO w q)) hown hK hI g_x rfl 1 (by decide) (hT _ w_395) (fun _ q => q) rfl d_WO_advance_87 ?_
    refine lv_icmp_ne (tgt := 107) hx hb d_WO_advance_90 (by decide) (fun c_1 => ?_) (fun c_1 => ?_)
    · have c_1 : ¬ f0 = bq := fun q => c_1 ((n_eq (a := f0) (b := bq) (by omega) (by omega)).mpr q)
      refine lv_aload_n hx hb d_WO_advance_107 rfl (lv_at hl 0 rfl) ?_
      refine lv_iload_n hx hb d_WO_advance_108 rfl (lv_at hl 1 rfl) ?_
      refine f_put (C := "DutyRules$Words") (T := T_WO) (N := 4) (fs' := [.ref t, .int (nI bq), .int (nI f0), .int wv]) (v := .int (nI f0)) hx hb (fun w q => hT w (s_WO w q)) t_WO k_WO n_WO hown hK hI g_x hrw rfl 2 (by decide) (hT _ w_396) (fun _ q => q) rfl rfl rfl (Nat.le_of_ble_eq_true rfl) rfl d_WO_advance_109 (fun H locs hI => ?_)
      generalize eh_2 : fU h1 x (rw, 0, .inr (7, [.ref t, .int (nI bq), .int (nI f0), .int wv])) = h_2 at hI
      have hX := hX.set (e := .inr (7, [.ref t, .int (nI bq), .int (nI f0), .int wv])) g_x hrw; rw [eh_2] at hX
      have hF := hF.set (e := .inr (7, [.ref t, .int (nI bq), .int (nI f0), .int wv])) g_x (show rw ∈ [rw] from by simp); rw [eh_2] at hF
      have g_t : h_2 t = some (rt, ot, .inr (10, .ref tb :: .int 0 :: tfs)) := (congrFun eh_2 t).symm.trans (fU_keep g_t (f_neR g_t g_x d1))
      have g_x : h_2 x = some (rw, 0, .inr (7, [.ref t, .int (nI bq), .int (nI f0), .int wv])) := (congrFun eh_2 x).symm.trans (fU_self _ _ _)
      refine lv_aload_n hx hb d_WO_advance_112 rfl (lv_at hl 0 rfl) ?_
      refine lv_dup hx hb d_WO_advance_113 rfl ?_
      refine f_get (C := "DutyRules$Words") (T := T_WO) (N := 4) hx hb (fun w q => hT w (s_WO w q)) hown hK hI g_x rfl 3 (by decide) (hT _ w_397) (fun _ q => q) rfl d_WO_advance_114 ?_
      refine lv_iconst (v := 1) hx hb d_WO_advance_117 (by decide) ?_
      refine lv_iadd hx hb d_WO_advance_118 ?_
      refine f_put (C := "DutyRules$Words") (T := T_WO) (N := 4) (fs' := [.ref t, .int (nI bq), .int (nI f0), .int (wv + 1)]) (v := .int (wv + 1)) hx hb (fun w q => hT w (s_WO w q)) t_WO k_WO n_WO hown hK hI g_x hrw rfl 3 (by decide) (hT _ w_397) (fun _ q => q) rfl rfl rfl (Nat.le_of_ble_eq_true rfl) rfl d_WO_advance_119 (fun H locs hI => ?_)
      generalize eh_3 : fU h_2 x (rw, 0, .inr (7, [.ref t, .int (nI bq), .int (nI f0), .int (wv + 1)])) = h_3 at hI
      have hX := hX.set (e := .inr (7, [.ref t, .int (nI bq), .int (nI f0), .int (wv + 1)])) g_x hrw; rw [eh_3] at hX
      have hF := hF.set (e := .inr (7, [.ref t, .int (nI bq), .int (nI f0), .int (wv + 1)])) g_x (show rw ∈ [rw] from by simp); rw [eh_3] at hF
      have g_t : h_3 t = some (rt, ot, .inr (10, .ref tb :: .int 0 :: tfs)) := (congrFun eh_3 t).symm.trans (fU_keep g_t (f_neR g_t g_x d1))
      have g_x : h_3 x = some (rw, 0, .inr (7, [.ref t, .int (nI bq), .int (nI f0), .int (wv + 1)])) := (congrFun eh_3 x).symm.trans (fU_self _ _ _)
      exact f_vret C hr hI ⟨by rw [← hB, hwe.1 c_1]; exact g_x, hF⟩ hX (Nat.le_refl _) (Nat.le_refl _) d_WO_advance_122
    · have c_1 : f0 = bq := (n_eq (a := f0) (b := bq) (by omega) (by omega)).mp c_1
      refine lv_iload_n hx hb d_WO_advance_93 rfl (lv_at hl 1 rfl) ?_
      refine lv_aload_n hx hb d_WO_advance_94 rfl (lv_at hl 0 rfl) ?_
      refine f_get (C := "DutyRules$Words") (T := T_WO) (N := 4) hx hb (fun w q => hT w (s_WO w q)) hown hK hI g_x rfl 0 (by decide) (hT _ w_394) (fun _ q => q) rfl d_WO_advance_95 ?_
      refine f_calli hI (f_runV C hI (c_ST_len l G h1 _ rt rt2 ot t tn tx hT1) gm_ST_length w_369 w_370 w_368 g_t rfl rfl rfl hl.1 rfl (Nat.le_of_ble_eq_true rfl) ⟨Nat.le_of_ble_eq_true rfl, Nat.le_of_ble_eq_true rfl⟩ d_WO_advance_98 ⟨Nat.le_of_ble_eq_true rfl, Nat.le_of_ble_eq_true rfl⟩) (fun r_4 h8 H9 locs hp9 hX9 hz9 hI => ?_)
      obtain ⟨rfl, e9⟩ := hp9
      rw [e9] at hI
      clear hX9 e9
      refine lv_icmp_ge (tgt := 107) hx hb d_WO_advance_101 (by decide) (fun c_5 => ?_) (fun c_5 => ?_)
      · have c_5 : tn ≤ f0 := (n_le (a := tn) (b := f0) (by omega) (by omega)).mp c_5
        refine lv_aload_n hx hb d_WO_advance_107 rfl (lv_at hl 0 rfl) ?_
        refine lv_iload_n hx hb d_WO_advance_108 rfl (lv_at hl 1 rfl) ?_
        refine f_put (C := "DutyRules$Words") (T := T_WO) (N := 4) (fs' := [.ref t, .int (nI bq), .int (nI f0), .int wv]) (v := .int (nI f0)) hx hb (fun w q => hT w (s_WO w q)) t_WO k_WO n_WO hown hK hI g_x hrw rfl 2 (by decide) (hT _ w_396) (fun _ q => q) rfl rfl rfl (Nat.le_of_ble_eq_true rfl) rfl d_WO_advance_109 (fun H locs hI => ?_)
        generalize eh_6 : fU h1 x (rw, 0, .inr (7, [.ref t, .int (nI bq), .int (nI f0), .int wv])) = h_6 at hI
        have hX := hX.set (e := .inr (7, [.ref t, .int (nI bq), .int (nI f0), .int wv])) g_x hrw; rw [eh_6] at hX
        have hF := hF.set (e := .inr (7, [.ref t, .int (nI bq), .int (nI f0), .int wv])) g_x (show rw ∈ [rw] from by simp); rw [eh_6] at hF
        have g_t : h_6 t = some (rt, ot, .inr (10, .ref tb :: .int 0 :: tfs)) := (congrFun eh_6 t).symm.trans (fU_keep g_t (f_neR g_t g_x d1))
        have g_x : h_6 x = some (rw, 0, .inr (7, [.ref t, .int (nI bq), .int (nI f0), .int wv])) := (congrFun eh_6 x).symm.trans (fU_self _ _ _)
        refine lv_aload_n hx hb d_WO_advance_112 rfl (lv_at hl 0 rfl) ?_
        refine lv_dup hx hb d_WO_advance_113 rfl ?_
        refine f_get (C := "DutyRules$Words") (T := T_WO) (N := 4) hx hb (fun w q => hT w (s_WO w q)) hown hK hI g_x rfl 3 (by decide) (hT _ w_397) (fun _ q => q) rfl d_WO_advance_114 ?_
        refine lv_iconst (v := 1) hx hb d_WO_advance_117 (by decide) ?_
        refine lv_iadd hx hb d_WO_advance_118 ?_
        refine f_put (C := "DutyRules$Words") (T := T_WO) (N := 4) (fs' := [.ref t, .int (nI bq), .int (nI f0), .int (wv + 1)]) (v := .int (wv + 1)) hx hb (fun w q => hT w (s_WO w q)) t_WO k_WO n_WO hown hK hI g_x hrw rfl 3 (by decide) (hT _ w_397) (fun _ q => q) rfl rfl rfl (Nat.le_of_ble_eq_true rfl) rfl d_WO_advance_119 (fun H locs hI => ?_)
        generalize eh_7 : fU h_6 x (rw, 0, .inr (7, [.ref t, .int (nI bq), .int (nI f0), .int (wv + 1)])) = h_7 at hI
        have hX := hX.set (e := .inr (7, [.ref t, .int (nI bq), .int (nI f0), .int (wv + 1)])) g_x hrw; rw [eh_7] at hX
        have hF := hF.set (e := .inr (7, [.ref t, .int (nI bq), .int (nI f0), .int (wv + 1)])) g_x (show rw ∈ [rw] from by simp); rw [eh_7] at hF
        have g_t : h_7 t = some (rt, ot, .inr (10, .ref tb :: .int 0 :: tfs)) := (congrFun eh_7 t).symm.trans (fU_keep g_t (f_neR g_t g_x d1))
        have g_x : h_7 x = some (rw, 0, .inr (7, [.ref t, .int (nI bq), .int (nI f0), .int (wv + 1)])) := (congrFun eh_7 x).symm.trans (fU_self _ _ _)
        exact f_vret C hr hI ⟨by rw [← hB, hwe.2.1 c_1 (by omega)]; exact g_x, hF⟩ hX (Nat.le_refl _) (Nat.le_refl _) d_WO_advance_122
      · have c_5 : ¬ tn ≤ f0 := fun q => c_5 ((n_le (a := tn) (b := f0) (by omega) (by omega)).mpr q)
        refine lv_iinc (v := nI (f0 + 1)) (lv' := [(1, .int (nI (f0 + 1))), (0, .ref x)]) hx hb d_WO_advance_104 hl (k := 1) rfl (f_inc1 _) (by decide) rfl (fun ls hl => ?_)
        refine lv_aload_n hx hb d_WO_advance_107 rfl (lv_at hl 1 rfl) ?_
        refine lv_iload_n hx hb d_WO_advance_108 rfl (lv_at hl 0 rfl) ?_
        refine f_put (C := "DutyRules$Words") (T := T_WO) (N := 4) (fs' := [.ref t, .int (nI bq), .int (nI (f0 + 1)), .int wv]) (v := .int (nI (f0 + 1))) hx hb (fun w q => hT w (s_WO w q)) t_WO k_WO n_WO hown hK hI g_x hrw rfl 2 (by decide) (hT _ w_396) (fun _ q => q) rfl rfl rfl (Nat.le_of_ble_eq_true rfl) rfl d_WO_advance_109 (fun H locs hI => ?_)
        generalize eh_8 : fU h1 x (rw, 0, .inr (7, [.ref t, .int (nI bq), .int (nI (f0 + 1)), .int wv])) = h_8 at hI
        have hX := hX.set (e := .inr (7, [.ref t, .int (nI bq), .int (nI (f0 + 1)), .int wv])) g_x hrw; rw [eh_8] at hX
        have hF := hF.set (e := .inr (7, [.ref t, .int (nI bq), .int (nI (f0 + 1)), .int wv])) g_x (show rw ∈ [rw] from by simp); rw [eh_8] at hF
        have g_t : h_8 t = some (rt, ot, .inr (10, .ref tb :: .int 0 :: tfs)) := (congrFun eh_8 t).symm.trans (fU_keep g_t (f_neR g_t g_x d1))
        have g_x : h_8 x = some (rw, 0, .inr (7, [.ref t, .int (nI bq), .int (nI (f0 + 1)), .int wv])) := (congrFun eh_8 x).symm.trans (fU_self _ _ _)
        refine lv_aload_n hx hb d_WO_advance_112 rfl (lv_at hl 1 rfl) ?_
        refine lv_dup hx hb d_WO_advance_113 rfl ?_
        refine f_get (C := "DutyRules$Words") (T := T_WO) (N := 4) hx hb (fun w q => hT w (s_WO w q)) hown hK hI g_x rfl 3 (by decide) (hT _ w_397) (fun _ q => q) rfl d_WO_advance_114 ?_
        refine lv_iconst (v := 1) hx hb d_WO_advance_117 (by decide) ?_
        refine lv_iadd hx hb d_WO_advance_118 ?_
        refine f_put (C := "DutyRules$Words") (T := T_WO) (N := 4) (fs' := [.ref t, .int (nI bq), .int (nI (f0 + 1)), .int (wv + 1)]) (v := .int (wv + 1)) hx hb (fun w q => hT w (s_WO w q)) t_WO k_WO n_WO hown hK hI g_x hrw rfl 3 (by decide) (hT _ w_397) (fun _ q => q) rfl rfl rfl (Nat.le_of_ble_eq_true rfl) rfl d_WO_advance_119 (fun H locs hI => ?_)
        generalize eh_9 : fU h_8 x (rw, 0, .inr (7, [.ref t, .int (nI bq), .int (nI (f0 + 1)), .int (wv + 1)])) = h_9 at hI
        have hX := hX.set (e := .inr (7, [.ref t, .int (nI bq), .int (nI (f0 + 1)), .int (wv + 1)])) g_x hrw; rw [eh_9] at hX
        have hF := hF.set (e := .inr (7, [.ref t, .int (nI bq), .int (nI (f0 + 1)), .int (wv + 1)])) g_x (show rw ∈ [rw] from by simp); rw [eh_9] at hF
        have g_t : h_9 t = some (rt, ot, .inr (10, .ref tb :: .int 0 :: tfs)) := (congrFun eh_9 t).symm.trans (fU_keep g_t (f_neR g_t g_x d1))
        have g_x : h_9 x = some (rw, 0, .inr (7, [.ref t, .int (nI bq), .int (nI (f0 + 1)), .int (wv + 1)])) := (congrFun eh_9 x).symm.trans (fU_self _ _ _)
        exact f_vret C hr hI ⟨by rw [← hB, hwe.2.2 c_1 (by omega)]; exact g_x, hF⟩ hX (Nat.le_refl _) (Nat.le_refl _) d_WO_advance_122
  have J41 : ∀ (k j : Nat), j + k = tn → f0 = fi (qE tx) j k → ∀ (h1 : fH) (H : Heap) (locs : List Loc), h1 x = some (rw, 0, .inr (7, [.ref t, .int (nI bq), .int (nI e0), .int wv])) → fF (inR [rw]) h h1 → fX h sz h1 → fI G.1 g_cl (fA h sz) s.heap h1 H locs → ∀ ls : Array Slot, lv_has ls 2 [(0, .ref x), (1, .int (nI j))] → W p l e { frames := 4, cells := 0, slots := 0, locals := 85 } s m ([.ref x] : List Value).toArray below meth c H locs 0 0 (MQ below (cQv G h sz (fun h' => h' x = some (rw, 0, .inr (7, [.ref t, .int (nI (wb tx tn e0)), .int (nI (we tx tn (wb tx tn e0))), .int (wv + 1)])) ∧ fF (inR [rw]) h h')) ([.ref x] : List Value).toArray s 0 0 (fA h sz)) (F0 m 41 ls []) := by
    intro k
    induction k with
    | zero =>
      intro j hj hfj h1 H locs g_x hF hX hI ls hl
      have hT1 := hT1.keepF hF (by simp [inR, d1]) (by simp [inR, d2])
      obtain ⟨tb, tc, tf, tfs, g_t, g_tb, htc, btn, htx⟩ := id hT1
      refine lv_iload_n hx hb d_WO_advance_41 rfl (lv_at hl 1 rfl) ?_
      refine lv_aload_n hx hb d_WO_advance_42 rfl (lv_at hl 0 rfl) ?_
      refine f_get (C := "DutyRules$Words") (T := T_WO) (N := 4) hx hb (fun w q => hT w (s_WO w q)) hown hK hI g_x rfl 0 (by decide) (hT _ w_394) (fun _ q => q) rfl d_WO_advance_43 ?_
      refine f_calli hI (f_runV C hI (c_ST_len l G h1 _ rt rt2 ot t tn tx hT1) gm_ST_length w_369 w_370 w_368 g_t rfl rfl rfl hl.1 rfl (Nat.le_of_ble_eq_true rfl) ⟨Nat.le_of_ble_eq_true rfl, Nat.le_of_ble_eq_true rfl⟩ d_WO_advance_46 ⟨Nat.le_of_ble_eq_true rfl, Nat.le_of_ble_eq_true rfl⟩) (fun r_10 h8 H9 locs hp9 hX9 hz9 hI => ?_)
      obtain ⟨rfl, e9⟩ := hp9
      rw [e9] at hI
      clear hX9 e9
      refine lv_icmp_ge (tgt := 85) hx hb d_WO_advance_49 (by decide) (fun c_11 => ?_) (fun c_11 => absurd ((n_le (a := tn) (b := j) (by omega) (by omega)).mpr (by omega)) c_11)
      have hfe : f0 = j := hfj
      rw [← hfe] at hl
      have hl : lv_has ls 2 [(0, .ref x), (1, .int (nI f0))] := hl
      refine J85 _ _ _ g_x hF hX hI ls ?_
      exact lv_sub hl [0, 1] rfl
    | succ k ih =>
      intro j hj hfj h1 H locs g_x hF hX hI ls hl
      have ih : ∀ j : Nat, j + k = tn → f0 = fi (qE tx) j k → ∀ (h1 : fH) (H : Heap) (locs : List Loc), h1 x = some (rw, 0, .inr (7, [.ref t, .int (nI bq), .int (nI e0), .int wv])) → fF (inR [rw]) h h1 → fX h sz h1 → fI G.1 g_cl (fA h sz) s.heap h1 H locs → ∀ ls : Array Slot, lv_has ls 2 [(0, .ref x), (1, .int (nI j))] → W p l e { frames := 4, cells := 0, slots := 0, locals := 85 } s m ([.ref x] : List Value).toArray below meth c H locs 0 0 (MQ below (cQv G h sz (fun h' => h' x = some (rw, 0, .inr (7, [.ref t, .int (nI (wb tx tn e0)), .int (nI (we tx tn (wb tx tn e0))), .int (wv + 1)])) ∧ fF (inR [rw]) h h')) ([.ref x] : List Value).toArray s 0 0 (fA h sz)) (F0 m 41 ls []) := ih
      have hT1 := hT1.keepF hF (by simp [inR, d1]) (by simp [inR, d2])
      obtain ⟨tb, tc, tf, tfs, g_t, g_tb, htc, btn, htx⟩ := id hT1
      refine lv_iload_n hx hb d_WO_advance_41 rfl (lv_at hl 1 rfl) ?_
      refine lv_aload_n hx hb d_WO_advance_42 rfl (lv_at hl 0 rfl) ?_
      refine f_get (C := "DutyRules$Words") (T := T_WO) (N := 4) hx hb (fun w q => hT w (s_WO w q)) hown hK hI g_x rfl 0 (by decide) (hT _ w_394) (fun _ q => q) rfl d_WO_advance_43 ?_
      refine f_calli hI (f_runV C hI (c_ST_len l G h1 _ rt rt2 ot t tn tx hT1) gm_ST_length w_369 w_370 w_368 g_t rfl rfl rfl hl.1 rfl (Nat.le_of_ble_eq_true rfl) ⟨Nat.le_of_ble_eq_true rfl, Nat.le_of_ble_eq_true rfl⟩ d_WO_advance_46 ⟨Nat.le_of_ble_eq_true rfl, Nat.le_of_ble_eq_true rfl⟩) (fun r_12 h8 H9 locs hp9 hX9 hz9 hI => ?_)
      obtain ⟨rfl, e9⟩ := hp9
      rw [e9] at hI
      clear hX9 e9
      refine lv_icmp_ge (tgt := 85) hx hb d_WO_advance_49 (by decide) (fun c_13 => absurd c_13 (fun q => absurd ((n_le (a := tn) (b := j) (by omega) (by omega)).mp q) (by omega))) (fun c_13 => ?_)
      refine lv_aload_n hx hb d_WO_advance_52 rfl (lv_at hl 0 rfl) ?_
      refine f_get (C := "DutyRules$Words") (T := T_WO) (N := 4) hx hb (fun w q => hT w (s_WO w q)) hown hK hI g_x rfl 0 (by decide) (hT _ w_394) (fun _ q => q) rfl d_WO_advance_53 ?_
      refine lv_iload_n hx hb d_WO_advance_56 rfl (lv_at hl 1 rfl) ?_
      refine f_calli hI (f_runV C hI (c_ST_at l G h1 _ rt rt2 ot t j tn tx hT1 (by omega)) gm_ST_charAt w_377 w_378 w_376 g_t rfl rfl rfl hl.1 rfl (Nat.le_of_ble_eq_true rfl) ⟨Nat.le_of_ble_eq_true rfl, Nat.le_of_ble_eq_true rfl⟩ d_WO_advance_57 ⟨Nat.le_of_ble_eq_true rfl, Nat.le_of_ble_eq_true rfl⟩) (fun r_14 h8 H9 locs hp9 hX9 hz9 hI => ?_)
      obtain ⟨rfl, e9⟩ := hp9
      rw [e9] at hI
      clear hX9 e9
      refine f_calli hI (f_runS C hI (c_WO_isBlank l G h1 _ (nI (tx j))) gm_WO_isBlank w_392 w_391 rfl hl.1 rfl (Nat.le_of_ble_eq_true rfl) ⟨Nat.le_of_ble_eq_true rfl, Nat.le_of_ble_eq_true rfl⟩ d_WO_advance_60 ⟨Nat.le_of_ble_eq_true rfl, Nat.le_of_ble_eq_true rfl⟩) (fun r_15 h8 H9 locs hp9 hX9 hz9 hI => ?_)
      obtain ⟨rfl, e9⟩ := hp9
      rw [e9] at hI
      clear hX9 e9
      have hx2 := hxl j (by omega)
      refine f_asi (isB_n (c := tx j) (by omega)) ?_
      by_cases hB1 : isB (tx j) = true
      · refine f_asi (if_pos hB1) ?_
        refine lv_if_ne (tgt := 85) hx hb d_WO_advance_63 (by decide) (fun c_16 => ?_) (fun c_16 => absurd c_16 (by decide))
        have hfe : f0 = j := hfj.trans (fi_yes (by simp [qE, hB1]))
        rw [← hfe] at hl
        have hl : lv_has ls 2 [(0, .ref x), (1, .int (nI f0))] := hl
        refine J85 _ _ _ g_x hF hX hI ls ?_
        exact lv_sub hl [0, 1] rfl
      · refine f_asi (if_neg hB1) ?_
        refine lv_if_ne (tgt := 85) hx hb d_WO_advance_63 (by decide) (fun c_17 => absurd (by decide) c_17) (fun c_17 => ?_)
        refine lv_aload_n hx hb d_WO_advance_66 rfl (lv_at hl 0 rfl) ?_
        refine f_get (C := "DutyRules$Words") (T := T_WO) (N := 4) hx hb (fun w q => hT w (s_WO w q)) hown hK hI g_x rfl 0 (by decide) (hT _ w_394) (fun _ q => q) rfl d_WO_advance_67 ?_
        refine lv_iload_n hx hb d_WO_advance_70 rfl (lv_at hl 1 rfl) ?_
        refine f_calli hI (f_runV C hI (c_ST_at l G h1 _ rt rt2 ot t j tn tx hT1 (by omega)) gm_ST_charAt w_377 w_378 w_376 g_t rfl rfl rfl hl.1 rfl (Nat.le_of_ble_eq_true rfl) ⟨Nat.le_of_ble_eq_true rfl, Nat.le_of_ble_eq_true rfl⟩ d_WO_advance_71 ⟨Nat.le_of_ble_eq_true rfl, Nat.le_of_ble_eq_true rfl⟩) (fun r_18 h8 H9 locs hp9 hX9 hz9 hI => ?_)
        obtain ⟨rfl, e9⟩ := hp9
        rw [e9] at hI
        clear hX9 e9
        refine lv_bipush (v := 59) hx hb d_WO_advance_74 (by decide) ?_
        refine lv_icmp_eq (tgt := 85) hx hb d_WO_advance_76 (by decide) (fun c_19 => ?_) (fun c_19 => ?_)
        · have c_19 : (tx j) = 59 := (n_eq (a := (tx j)) (b := 59) (by omega) (by omega)).mp c_19
          have hfe : f0 = j := hfj.trans (fi_yes (by simp [qE, c_19]))
          rw [← hfe] at hl
          have hl : lv_has ls 2 [(0, .ref x), (1, .int (nI f0))] := hl
          refine J85 _ _ _ g_x hF hX hI ls ?_
          exact lv_sub hl [0, 1] rfl
        · have c_19 : ¬ (tx j) = 59 := fun q => c_19 ((n_eq (a := (tx j)) (b := 59) (by omega) (by omega)).mpr q)
          refine lv_iinc (v := nI (j + 1)) (lv' := [(1, .int (nI (j + 1))), (0, .ref x)]) hx hb d_WO_advance_79 hl (k := 1) rfl (f_inc1 _) (by decide) rfl (fun ls hl => ?_)
          refine lv_goto (tgt := 41) hx hb d_WO_advance_82 (by decide) ?_
          refine ih (j + 1) (by omega) (hfj.trans (fi_no (by simp [qE, hB1, c_19]))) _ _ _ g_x hF hX hI ls ?_
          exact lv_sub hl [1, 0] rfl
  have J5 : ∀ (k i : Nat), i + k = tn → bq = fi (qB tx) i k → ∀ (H : Heap) (locs : List Loc), fI G.1 g_cl (fA h sz) s.heap h H locs → ∀ ls : Array Slot, lv_has ls 2 [(0, .ref x), (1, .int (nI i))] → W p l e { frames := 4, cells := 0, slots := 0, locals := 85 } s m ([.ref x] : List Value).toArray below meth c H locs 0 0 (MQ below (cQv G h sz (fun h' => h' x = some (rw, 0, .inr (7, [.ref t, .int (nI (wb tx tn e0)), .int (nI (we tx tn (wb tx tn e0))), .int (wv + 1)])) ∧ fF (inR [rw]) h h')) ([.ref x] : List Value).toArray s 0 0 (fA h sz)) (F0 m 5 ls []) := by
    intro k
    induction k with
    | zero =>
      intro i hi hbi H locs hI ls hl
      refine lv_iload_n hx hb d_WO_advance_5 rfl (lv_at hl 1 rfl) ?_
      refine lv_aload_n hx hb d_WO_advance_6 rfl (lv_at hl 0 rfl) ?_
      refine f_get (C := "DutyRules$Words") (T := T_WO) (N := 4) hx hb (fun w q => hT w (s_WO w q)) hown hK hI g_x rfl 0 (by decide) (hT _ w_394) (fun _ q => q) rfl d_WO_advance_7 ?_
      refine f_calli hI (f_runV C hI (c_ST_len l G h _ rt rt2 ot t tn tx hT1) gm_ST_length w_369 w_370 w_368 g_t rfl rfl rfl hl.1 rfl (Nat.le_of_ble_eq_true rfl) ⟨Nat.le_of_ble_eq_true rfl, Nat.le_of_ble_eq_true rfl⟩ d_WO_advance_10 ⟨Nat.le_of_ble_eq_true rfl, Nat.le_of_ble_eq_true rfl⟩) (fun r_20 h8 H9 locs hp9 hX9 hz9 hI => ?_)
      obtain ⟨rfl, e9⟩ := hp9
      rw [e9] at hI
      clear hX9 e9
      refine lv_icmp_ge (tgt := 36) hx hb d_WO_advance_13 (by decide) (fun c_21 => ?_) (fun c_21 => absurd ((n_le (a := tn) (b := i) (by omega) (by omega)).mpr (by omega)) c_21)
      have hbe : bq = i := hbi
      rw [← hbe] at hl
      have hl : lv_has ls 2 [(0, .ref x), (1, .int (nI bq))] := hl
      refine lv_aload_n hx hb d_WO_advance_36 rfl (lv_at hl 0 rfl) ?_
      refine lv_iload_n hx hb d_WO_advance_37 rfl (lv_at hl 1 rfl) ?_
      refine f_put (C := "DutyRules$Words") (T := T_WO) (N := 4) (fs' := [.ref t, .int (nI bq), .int (nI e0), .int wv]) (v := .int (nI bq)) hx hb (fun w q => hT w (s_WO w q)) t_WO k_WO n_WO hown hK hI g_x hrw rfl 1 (by decide) (hT _ w_395) (fun _ q => q) rfl rfl rfl (Nat.le_of_ble_eq_true rfl) rfl d_WO_advance_38 (fun H locs hI => ?_)
      generalize eh_22 : fU h x (rw, 0, .inr (7, [.ref t, .int (nI bq), .int (nI e0), .int wv])) = h_22 at hI
      have hX := hX.set (e := .inr (7, [.ref t, .int (nI bq), .int (nI e0), .int wv])) g_x hrw; rw [eh_22] at hX
      have hF := hF.set (e := .inr (7, [.ref t, .int (nI bq), .int (nI e0), .int wv])) g_x (show rw ∈ [rw] from by simp); rw [eh_22] at hF
      have g_t : h_22 t = some (rt, ot, .inr (10, .ref tb :: .int 0 :: tfs)) := (congrFun eh_22 t).symm.trans (fU_keep g_t (f_neR g_t g_x d1))
      have g_x : h_22 x = some (rw, 0, .inr (7, [.ref t, .int (nI bq), .int (nI e0), .int wv])) := (congrFun eh_22 x).symm.trans (fU_self _ _ _)
      refine J41 (tn - bq) bq (by omega) hf0 _ _ _ g_x hF hX hI ls ?_
      exact lv_sub hl [0, 1] rfl
    | succ k ih =>
      intro i hi hbi H locs hI ls hl
      have ih : ∀ i : Nat, i + k = tn → bq = fi (qB tx) i k → ∀ (H : Heap) (locs : List Loc), fI G.1 g_cl (fA h sz) s.heap h H locs → ∀ ls : Array Slot, lv_has ls 2 [(0, .ref x), (1, .int (nI i))] → W p l e { frames := 4, cells := 0, slots := 0, locals := 85 } s m ([.ref x] : List Value).toArray below meth c H locs 0 0 (MQ below (cQv G h sz (fun h' => h' x = some (rw, 0, .inr (7, [.ref t, .int (nI (wb tx tn e0)), .int (nI (we tx tn (wb tx tn e0))), .int (wv + 1)])) ∧ fF (inR [rw]) h h')) ([.ref x] : List Value).toArray s 0 0 (fA h sz)) (F0 m 5 ls []) := ih
      refine lv_iload_n hx hb d_WO_advance_5 rfl (lv_at hl 1 rfl) ?_
      refine lv_aload_n hx hb d_WO_advance_6 rfl (lv_at hl 0 rfl) ?_
      refine f_get (C := "DutyRules$Words") (T := T_WO) (N := 4) hx hb (fun w q => hT w (s_WO w q)) hown hK hI g_x rfl 0 (by decide) (hT _ w_394) (fun _ q => q) rfl d_WO_advance_7 ?_
      refine f_calli hI (f_runV C hI (c_ST_len l G h _ rt rt2 ot t tn tx hT1) gm_ST_length w_369 w_370 w_368 g_t rfl rfl rfl hl.1 rfl (Nat.le_of_ble_eq_true rfl) ⟨Nat.le_of_ble_eq_true rfl, Nat.le_of_ble_eq_true rfl⟩ d_WO_advance_10 ⟨Nat.le_of_ble_eq_true rfl, Nat.le_of_ble_eq_true rfl⟩) (fun r_23 h8 H9 locs hp9 hX9 hz9 hI => ?_)
      obtain ⟨rfl, e9⟩ := hp9
      rw [e9] at hI
      clear hX9 e9
      refine lv_icmp_ge (tgt := 36) hx hb d_WO_advance_13 (by decide) (fun c_24 => absurd c_24 (fun q => absurd ((n_le (a := tn) (b := i) (by omega) (by omega)).mp q) (by omega))) (fun c_24 => ?_)
      refine lv_aload_n hx hb d_WO_advance_16 rfl (lv_at hl 0 rfl) ?_
      refine f_get (C := "DutyRules$Words") (T := T_WO) (N := 4) hx hb (fun w q => hT w (s_WO w q)) hown hK hI g_x rfl 0 (by decide) (hT _ w_394) (fun _ q => q) rfl d_WO_advance_17 ?_
      refine lv_iload_n hx hb d_WO_advance_20 rfl (lv_at hl 1 rfl) ?_
      refine f_calli hI (f_runV C hI (c_ST_at l G h _ rt rt2 ot t i tn tx hT1 (by omega)) gm_ST_charAt w_377 w_378 w_376 g_t rfl rfl rfl hl.1 rfl (Nat.le_of_ble_eq_true rfl) ⟨Nat.le_of_ble_eq_true rfl, Nat.le_of_ble_eq_true rfl⟩ d_WO_advance_21 ⟨Nat.le_of_ble_eq_true rfl, Nat.le_of_ble_eq_true rfl⟩) (fun r_25 h8 H9 locs hp9 hX9 hz9 hI => ?_)
      obtain ⟨rfl, e9⟩ := hp9
      rw [e9] at hI
      clear hX9 e9
      refine f_calli hI (f_runS C hI (c_WO_isBlank l G h _ (nI (tx i))) gm_WO_isBlank w_392 w_391 rfl hl.1 rfl (Nat.le_of_ble_eq_true rfl) ⟨Nat.le_of_ble_eq_true rfl, Nat.le_of_ble_eq_true rfl⟩ d_WO_advance_24 ⟨Nat.le_of_ble_eq_true rfl, Nat.le_of_ble_eq_true rfl⟩) (fun r_26 h8 H9 locs hp9 hX9 hz9 hI => ?_)
      obtain ⟨rfl, e9⟩ := hp9
      rw [e9] at hI
      clear hX9 e9
      have hx2 := hxl i (by omega)
      refine f_asi (isB_n (c := tx i) (by omega)) ?_
      by_cases hB1 : isB (tx i) = true
      · refine f_asi (if_pos hB1) ?_
        refine lv_if_eq (tgt := 36) hx hb d_WO_advance_27 (by decide) (fun c_27 => absurd c_27 (by decide)) (fun c_27 => ?_)
        refine lv_iinc (v := nI (i + 1)) (lv' := [(1, .int (nI (i + 1))), (0, .ref x)]) hx hb d_WO_advance_30 hl (k := 1) rfl (f_inc1 _) (by decide) rfl (fun ls hl => ?_)
        refine lv_goto (tgt := 5) hx hb d_WO_advance_33 (by decide) ?_
        refine ih (i + 1) (by omega) (hbi.trans (fi_no (by simp [qB, hB1]))) _ _ hI ls ?_
        exact lv_sub hl [1, 0] rfl
      · refine f_asi (if_neg hB1) ?_
        refine lv_if_eq (tgt := 36) hx hb d_WO_advance_27 (by decide) (fun c_28 => ?_) (fun c_28 => absurd (by decide) c_28)
        have hbe : bq = i := hbi.trans (fi_yes (by simp [qB, hB1]))
        rw [← hbe] at hl
        have hl : lv_has ls 2 [(0, .ref x), (1, .int (nI bq))] := hl
        refine lv_aload_n hx hb d_WO_advance_36 rfl (lv_at hl 0 rfl) ?_
        refine lv_iload_n hx hb d_WO_advance_37 rfl (lv_at hl 1 rfl) ?_
        refine f_put (C := "DutyRules$Words") (T := T_WO) (N := 4) (fs' := [.ref t, .int (nI bq), .int (nI e0), .int wv]) (v := .int (nI bq)) hx hb (fun w q => hT w (s_WO w q)) t_WO k_WO n_WO hown hK hI g_x hrw rfl 1 (by decide) (hT _ w_395) (fun _ q => q) rfl rfl rfl (Nat.le_of_ble_eq_true rfl) rfl d_WO_advance_38 (fun H locs hI => ?_)
        generalize eh_29 : fU h x (rw, 0, .inr (7, [.ref t, .int (nI bq), .int (nI e0), .int wv])) = h_29 at hI
        have hX := hX.set (e := .inr (7, [.ref t, .int (nI bq), .int (nI e0), .int wv])) g_x hrw; rw [eh_29] at hX
        have hF := hF.set (e := .inr (7, [.ref t, .int (nI bq), .int (nI e0), .int wv])) g_x (show rw ∈ [rw] from by simp); rw [eh_29] at hF
        have g_t : h_29 t = some (rt, ot, .inr (10, .ref tb :: .int 0 :: tfs)) := (congrFun eh_29 t).symm.trans (fU_keep g_t (f_neR g_t g_x d1))
        have g_x : h_29 x = some (rw, 0, .inr (7, [.ref t, .int (nI bq), .int (nI e0), .int wv])) := (congrFun eh_29 x).symm.trans (fU_self _ _ _)
        refine J41 (tn - bq) bq (by omega) hf0 _ _ _ g_x hF hX hI ls ?_
        exact lv_sub hl [0, 1] rfl
  refine lv_aload_n hx hb d_WO_advance_0 rfl (lv_at hl 0 rfl) ?_
  refine f_get (C := "DutyRules$Words") (T := T_WO) (N := 4) hx hb (fun w q => hT w (s_WO w q)) hown hK hI g_x rfl 2 (by decide) (hT _ w_396) (fun _ q => q) rfl d_WO_advance_1 ?_
  refine lv_istore_n (lv' := [(1, .int (nI e0)), (0, .ref x)]) hx hb d_WO_advance_4 rfl hl (by decide) rfl (fun ls hl => ?_)
  refine J5 (tn - e0) e0 (by omega) hB _ _ hI ls ?_
  exact lv_sub hl [1, 0] rfl
theorem gm_WO_init : gM y_WO_init b_WO_init 2 none 1 := ⟨w_362, w_17, ⟨by decide, by decide⟩, by decide +kernel⟩
set_option maxHeartbeats 4000000 in
set_option maxRecDepth 100000 in
/-- WO_init  -/
theorem c_WO_init (l : Launch) (G : gG) (h : fH) (sz : Nat) (x t rw : Nat) (tn rt rt2 ot : Nat) (tx : Nat → Nat) (g_x : h x = some (rw, 0, .inr (7, [.null, .int 0, .int 0, .int 0]))) (hT1 : sT G h rt rt2 ot t tx tn) (hrw : rw ≠ 0) (d1 : rt ≠ rw) (d2 : rt2 ≠ rw) : cM l y_WO_init b_WO_init 2 none { frames := 5, cells := 0, slots := 0, locals := 106 } G [.ref x, .ref t] h sz (cQv G h sz (fun h' => h' x = some (rw, 0, .inr (7, [.ref t, .int (nI (wb tx tn 0)), .int (nI (we tx tn (wb tx tn 0))), .int 0])) ∧ fF (inR [rw]) h h')) := by
  refine f_start (by decide) (Nat.le_of_ble_eq_true rfl) ?_
  intro p e s m below meth c ls C hr hsz hI hl
  obtain ⟨hx, hb, hml, hown, hnm, hlk, hT, hG, hZ⟩ := id C
  have hK := hG.1
  have hX : fX h sz h := fX.rf
  have hl : lv_has ls 2 [(0, .ref x), (1, .ref t)] := hl
  have hF : fF (inR [rw]) h h := fF.rf
  refine lv_aload_n hx hb d_WO_init_0 rfl (lv_at hl 0 rfl) ?_
  refine W.objInit hx hb hown (hT _ w_363) (hT _ w_28) (hT _ w_29) rfl (by rw [hml]; exact hl.1) rfl d_WO_init_1 (Nat.le_of_ble_eq_true rfl) (Nat.le_of_ble_eq_true rfl) ?_
  refine W.eq (g2 := F0 m 4 ls []) rfl ?_
  refine lv_aload_n hx hb d_WO_init_4 rfl (lv_at hl 0 rfl) ?_
  refine lv_aload_n hx hb d_WO_init_5 rfl (lv_at hl 1 rfl) ?_
  refine f_putF (C := "DutyRules$Words") (T := T_WO) (N := 4) (fs' := [.ref t, .int 0, .int 0, .int 0]) (v := .ref t) hx hb (fun w q => hT w (s_WO w q)) t_WO k_WO n_WO hown hK hI g_x hrw rfl 0 (by decide) (hT _ w_394) (fun _ q => q) rfl hnm rfl rfl rfl (Nat.le_of_ble_eq_true rfl) rfl d_WO_init_6 (fun H locs hI => ?_)
  generalize eh_1 : fU h x (rw, 0, .inr (7, [.ref t, .int 0, .int 0, .int 0])) = h_1 at hI
  have hX := hX.set (e := .inr (7, [.ref t, .int 0, .int 0, .int 0])) g_x hrw; rw [eh_1] at hX
  have hF := hF.set (e := .inr (7, [.ref t, .int 0, .int 0, .int 0])) g_x (show rw ∈ [rw] from by simp); rw [eh_1] at hF
  have hW9 : fF (inR [rw]) h h_1 := by rw [← eh_1]; exact fF.rf.set g_x (show rw ∈ [rw] from by simp)
  have hT1 := hT1.keepF hW9 (by simp [inR, d1]) (by simp [inR, d2])
  have g_x : h_1 x = some (rw, 0, .inr (7, [.ref t, .int 0, .int 0, .int 0])) := (congrFun eh_1 x).symm.trans (fU_self _ _ _)
  refine lv_aload_n hx hb d_WO_init_9 rfl (lv_at hl 0 rfl) ?_
  refine lv_iconst (v := 0) hx hb d_WO_init_10 (by decide) ?_
  refine f_put (C := "DutyRules$Words") (T := T_WO) (N := 4) (fs' := [.ref t, .int 0, .int 0, .int 0]) (v := .int 0) hx hb (fun w q => hT w (s_WO w q)) t_WO k_WO n_WO hown hK hI g_x hrw rfl 1 (by decide) (hT _ w_395) (fun _ q => q) rfl rfl rfl (Nat.le_of_ble_eq_true rfl) rfl d_WO_init_11 (fun H locs hI => ?_)
  generalize eh_2 : fU h_1 x (rw, 0, .inr (7, [.ref t, .int 0, .int 0, .int 0])) = h_2 at hI
  have hX := hX.set (e := .inr (7, [.ref t, .int 0, .int 0, .int 0])) g_x hrw; rw [eh_2] at hX
  have hF := hF.set (e := .inr (7, [.ref t, .int 0, .int 0, .int 0])) g_x (show rw ∈ [rw] from by simp); rw [eh_2] at hF
  have hW9 : fF (inR [rw]) h_1 h_2 := by rw [← eh_2]; exact fF.rf.set g_x (show rw ∈ [rw] from by simp)
  have hT1 := hT1.keepF hW9 (by simp [inR, d1]) (by simp [inR, d2])
  have g_x : h_2 x = some (rw, 0, .inr (7, [.ref t, .int 0, .int 0, .int 0])) := (congrFun eh_2 x).symm.trans (fU_self _ _ _)
  refine lv_aload_n hx hb d_WO_init_14 rfl (lv_at hl 0 rfl) ?_
  refine lv_iconst (v := 0) hx hb d_WO_init_15 (by decide) ?_
  refine f_put (C := "DutyRules$Words") (T := T_WO) (N := 4) (fs' := [.ref t, .int 0, .int 0, .int 0]) (v := .int 0) hx hb (fun w q => hT w (s_WO w q)) t_WO k_WO n_WO hown hK hI g_x hrw rfl 2 (by decide) (hT _ w_396) (fun _ q => q) rfl rfl rfl (Nat.le_of_ble_eq_true rfl) rfl d_WO_init_16 (fun H locs hI => ?_)
  generalize eh_3 : fU h_2 x (rw, 0, .inr (7, [.ref t, .int 0, .int 0, .int 0])) = h_3 at hI
  have hX := hX.set (e := .inr (7, [.ref t, .int 0, .int 0, .int 0])) g_x hrw; rw [eh_3] at hX
  have hF := hF.set (e := .inr (7, [.ref t, .int 0, .int 0, .int 0])) g_x (show rw ∈ [rw] from by simp); rw [eh_3] at hF
  have hW9 : fF (inR [rw]) h_2 h_3 := by rw [← eh_3]; exact fF.rf.set g_x (show rw ∈ [rw] from by simp)
  have hT1 := hT1.keepF hW9 (by simp [inR, d1]) (by simp [inR, d2])
  have g_x : h_3 x = some (rw, 0, .inr (7, [.ref t, .int 0, .int 0, .int 0])) := (congrFun eh_3 x).symm.trans (fU_self _ _ _)
  refine lv_aload_n hx hb d_WO_init_19 rfl (lv_at hl 0 rfl) ?_
  refine lv_iconst (v := (-1)) hx hb d_WO_init_20 (by decide) ?_
  refine f_put (C := "DutyRules$Words") (T := T_WO) (N := 4) (fs' := [.ref t, .int 0, .int 0, .int (-1)]) (v := .int (-1)) hx hb (fun w q => hT w (s_WO w q)) t_WO k_WO n_WO hown hK hI g_x hrw rfl 3 (by decide) (hT _ w_397) (fun _ q => q) rfl rfl rfl (Nat.le_of_ble_eq_true rfl) rfl d_WO_init_21 (fun H locs hI => ?_)
  generalize eh_4 : fU h_3 x (rw, 0, .inr (7, [.ref t, .int 0, .int 0, .int (-1)])) = h_4 at hI
  have hX := hX.set (e := .inr (7, [.ref t, .int 0, .int 0, .int (-1)])) g_x hrw; rw [eh_4] at hX
  have hF := hF.set (e := .inr (7, [.ref t, .int 0, .int 0, .int (-1)])) g_x (show rw ∈ [rw] from by simp); rw [eh_4] at hF
  have hW9 : fF (inR [rw]) h_3 h_4 := by rw [← eh_4]; exact fF.rf.set g_x (show rw ∈ [rw] from by simp)
  have hT1 := hT1.keepF hW9 (by simp [inR, d1]) (by simp [inR, d2])
  have g_x : h_4 x = some (rw, 0, .inr (7, [.ref t, .int 0, .int 0, .int (-1)])) := (congrFun eh_4 x).symm.trans (fU_self _ _ _)
  refine lv_aload_n hx hb d_WO_init_24 rfl (lv_at hl 0 rfl) ?_
  have hzA := hI.2.2.2.1
  refine f_callv hI (f_runV C hI (c_WO_advance l G h_4 _ x t rw 0 0 (-1) tn rt rt2 ot tx g_x hT1 hrw d1 d2 (Nat.zero_le _)) gm_WO_advance w_365 w_366 w_364 g_x rfl rfl rfl hl.1 rfl (Nat.le_of_ble_eq_true rfl) ⟨Nat.le_of_ble_eq_true rfl, Nat.le_of_ble_eq_true rfl⟩ d_WO_init_25 ⟨Nat.le_of_ble_eq_true rfl, Nat.le_of_ble_eq_true rfl⟩) (fun h9 H9 locs hp9 hX9 hz9 hI => ?_)
  obtain ⟨g9, hF9⟩ := hp9
  have hX := fX.tr (Nat.le_trans (Nat.le_of_eq hsz.symm) hzA) hX hX9
  have hF := hF.tr hF9
  rw [show ((-1 : Int32) + 1) = 0 from by decide] at g9
  exact f_vret C hr hI ⟨g9, hF⟩ hX (Nat.le_refl _) (Nat.le_refl _) d_WO_init_28
/-- where the forms lie among the constants -/
def fS (K : Nat) : Nat := [1, 2, 3, 4, 5, 6].getD K 0
theorem gm_GR_formOf : gM y_GR_formOf b_GR_formOf 1 (some (.object "java/lang/String")) 1 := ⟨w_444, w_18, ⟨by decide, by decide⟩, by decide +kernel⟩
set_option maxHeartbeats 4000000 in
set_option maxRecDepth 100000 in
/-- GR_formOf  -/
theorem c_GR_formOf (l : Launch) (G : gG) (h : fH) (sz : Nat) (K : Nat) (bK : K < 6) : cM l y_GR_formOf b_GR_formOf 1 (some (.object "java/lang/String")) { frames := 0, cells := 0, slots := 0, locals := 0 } G [.int (nI K)] h sz (cQq G h sz (fun z h' => z = some (G.2.2.2 (fS K)) ∧ h' = h)) := by
  refine f_start (by decide) (Nat.le_of_ble_eq_true rfl) ?_
  intro p e s m below meth c ls C hr hsz hI hl
  obtain ⟨hx, hb, hml, hown, hnm, hlk, hT, hG, hZ⟩ := id C
  have hK := hG.1
  have hX : fX h sz h := fX.rf
  have hl : lv_has ls 1 [(0, .int (nI K))] := hl
  have hKi : (nI K).toInt = K := nI_toInt (by omega)
  refine lv_iload_n hx hb d_GR_formOf_0 rfl (lv_at hl 0 rfl) ?_
  rcases (show (nI K).toInt = 0 ∨ (nI K).toInt = 1 ∨ (nI K).toInt = 2 ∨ (nI K).toInt = 3 ∨ (nI K).toInt = 4 ∨ ((nI K).toInt < 0 ∨ 4 < (nI K).toInt) by omega) with e_1 | e_1 | e_1 | e_1 | e_1 | e_1
  · refine lv_tableIn (off := 35) (tgt := 36) hx hb d_GR_formOf_1 (by rw [e_1]; decide) (by rw [e_1]; decide) (by rw [e_1]; decide) (by decide) ?_
    refine va_ldcS hx hb hown (hG.2.2.2.1 _ w_445) d_GR_formOf_36 ?_
    exact f_aret (v := some (G.2.2.2 1)) C hr (Or.inl ⟨_, rfl⟩) hI ⟨by rw [show K = 0 by omega]; rfl, rfl⟩ hX (Nat.le_refl _) (Nat.le_refl _) d_GR_formOf_38
  · refine lv_tableIn (off := 38) (tgt := 39) hx hb d_GR_formOf_1 (by rw [e_1]; decide) (by rw [e_1]; decide) (by rw [e_1]; decide) (by decide) ?_
    refine va_ldcS hx hb hown (hG.2.2.2.1 _ w_446) d_GR_formOf_39 ?_
    exact f_aret (v := some (G.2.2.2 2)) C hr (Or.inl ⟨_, rfl⟩) hI ⟨by rw [show K = 1 by omega]; rfl, rfl⟩ hX (Nat.le_refl _) (Nat.le_refl _) d_GR_formOf_41
  · refine lv_tableIn (off := 41) (tgt := 42) hx hb d_GR_formOf_1 (by rw [e_1]; decide) (by rw [e_1]; decide) (by rw [e_1]; decide) (by decide) ?_
    refine va_ldcS hx hb hown (hG.2.2.2.1 _ w_447) d_GR_formOf_42 ?_
    exact f_aret (v := some (G.2.2.2 3)) C hr (Or.inl ⟨_, rfl⟩) hI ⟨by rw [show K = 2 by omega]; rfl, rfl⟩ hX (Nat.le_refl _) (Nat.le_refl _) d_GR_formOf_44
  · refine lv_tableIn (off := 44) (tgt := 45) hx hb d_GR_formOf_1 (by rw [e_1]; decide) (by rw [e_1]; decide) (by rw [e_1]; decide) (by decide) ?_
    refine va_ldcS hx hb hown (hG.2.2.2.1 _ w_448) d_GR_formOf_45 ?_
    exact f_aret (v := some (G.2.2.2 4)) C hr (Or.inl ⟨_, rfl⟩) hI ⟨by rw [show K = 3 by omega]; rfl, rfl⟩ hX (Nat.le_refl _) (Nat.le_refl _) d_GR_formOf_47
  · refine lv_tableIn (off := 47) (tgt := 48) hx hb d_GR_formOf_1 (by rw [e_1]; decide) (by rw [e_1]; decide) (by rw [e_1]; decide) (by decide) ?_
    refine va_ldcS hx hb hown (hG.2.2.2.1 _ w_449) d_GR_formOf_48 ?_
    exact f_aret (v := some (G.2.2.2 5)) C hr (Or.inl ⟨_, rfl⟩) hI ⟨by rw [show K = 4 by omega]; rfl, rfl⟩ hX (Nat.le_refl _) (Nat.le_refl _) d_GR_formOf_50
  · refine lv_tableOut (tgt := 51) hx hb d_GR_formOf_1 e_1 (by decide) ?_
    refine va_ldcS hx hb hown (hG.2.2.2.1 _ w_450) d_GR_formOf_51 ?_
    exact f_aret (v := some (G.2.2.2 6)) C hr (Or.inl ⟨_, rfl⟩) hI ⟨by rw [show K = 5 by omega]; rfl, rfl⟩ hX (Nat.le_refl _) (Nat.le_refl _) d_GR_formOf_53
theorem gm_GR_isInRange : gM y_GR_isInRange b_GR_isInRange 2 (some .boolean) 2 := ⟨w_482, w_18, ⟨by decide, by decide⟩, by decide +kernel⟩
set_option maxHeartbeats 4000000 in
set_option maxRecDepth 100000 in
/-- GR_isInRange  -/
theorem c_GR_isInRange_71 (l : Launch) (G : gG) (h : fH) (sz : Nat) (ov : Option Nat) (bo : ∀ v, ov = some v → v < 1000000000) : cM l y_GR_isInRange b_GR_isInRange 2 (some .boolean) { frames := 0, cells := 0, slots := 0, locals := 0 } G [.int (oN ov), .int 71] h sz (cQi G h sz (fun x h' => ((x = 1 ∧ ∃ v, ov = some v ∧ 0 ≤ v ∧ v ≤ 9) ∨ (x = 0 ∧ ¬ ∃ v, ov = some v ∧ 0 ≤ v ∧ v ≤ 9)) ∧ h' = h)) := by
  refine f_start (by decide) (Nat.le_of_ble_eq_true rfl) ?_
  intro p e s m below meth c ls C hr hsz hI hl
  obtain ⟨hx, hb, hml, hown, hnm, hlk, hT, hG, hZ⟩ := id C
  have hK := hG.1
  have hX : fX h sz h := fX.rf
  have hl : lv_has ls 2 [(0, .int (oN ov)), (1, .int 71)] := hl
  rcases ov with _ | v
  · have hl : lv_has ls 2 [(0, .int (-1)), (1, .int 71)] := hl
    refine lv_iload_n hx hb d_GR_isInRange_0 rfl (lv_at hl 1 rfl) ?_
    refine lv_tableIn (off := 67) (tgt := 68) hx hb d_GR_isInRange_1 (by decide) (by decide) (by decide) (by decide) ?_
    refine lv_iload_n hx hb d_GR_isInRange_68 rfl (lv_at hl 0 rfl) ?_
    refine lv_if_lt (tgt := 82) hx hb d_GR_isInRange_69 (by decide) (fun c_1 => ?_) (fun c_1 => absurd (by decide) c_1)
    refine lv_iconst (v := 0) hx hb d_GR_isInRange_82 (by decide) ?_
    exact f_zret C hr rfl hI ⟨Or.inr ⟨rfl, fun ⟨v, q, _⟩ => by cases q⟩, rfl⟩ hX (Nat.le_refl _) (Nat.le_refl _) d_GR_isInRange_83
  · have hl : lv_has ls 2 [(0, .int (nI v)), (1, .int 71)] := hl
    have bv := bo v rfl
    refine lv_iload_n hx hb d_GR_isInRange_0 rfl (lv_at hl 1 rfl) ?_
    refine lv_tableIn (off := 67) (tgt := 68) hx hb d_GR_isInRange_1 (by decide) (by decide) (by decide) (by decide) ?_
    refine lv_iload_n hx hb d_GR_isInRange_68 rfl (lv_at hl 0 rfl) ?_
    refine lv_if_lt (tgt := 82) hx hb d_GR_isInRange_69 (by decide) (fun c_2 => absurd c_2 (nI_pos (by omega))) (fun c_2 => ?_)
    refine lv_iload_n hx hb d_GR_isInRange_72 rfl (lv_at hl 0 rfl) ?_
    refine lv_bipush (v := 9) hx hb d_GR_isInRange_73 (by decide) ?_
    refine lv_icmp_gt (tgt := 82) hx hb d_GR_isInRange_75 (by decide) (fun c_3 => ?_) (fun c_3 => ?_)
    · have c_3 : 9 < v := (n_lt (a := 9) (b := v) (by omega) (by omega)).mp c_3
      refine lv_iconst (v := 0) hx hb d_GR_isInRange_82 (by decide) ?_
      exact f_zret C hr rfl hI ⟨Or.inr ⟨rfl, fun ⟨w9, q, q1, q2⟩ => by cases q; omega⟩, rfl⟩ hX (Nat.le_refl _) (Nat.le_refl _) d_GR_isInRange_83
    · have c_3 : ¬ 9 < v := fun q => c_3 ((n_lt (a := 9) (b := v) (by omega) (by omega)).mpr q)
      refine lv_iconst (v := 1) hx hb d_GR_isInRange_78 (by decide) ?_
      refine lv_goto (tgt := 83) hx hb d_GR_isInRange_79 (by decide) ?_
      exact f_zret C hr rfl hI ⟨Or.inl ⟨rfl, v, rfl, by omega, by omega⟩, rfl⟩ hX (Nat.le_refl _) (Nat.le_refl _) d_GR_isInRange_83
set_option maxHeartbeats 4000000 in
set_option maxRecDepth 100000 in
/-- GR_isInRange  -/
theorem c_GR_isInRange_83 (l : Launch) (G : gG) (h : fH) (sz : Nat) (ov : Option Nat) (bo : ∀ v, ov = some v → v < 1000000000) : cM l y_GR_isInRange b_GR_isInRange 2 (some .boolean) { frames := 0, cells := 0, slots := 0, locals := 0 } G [.int (oN ov), .int 83] h sz (cQi G h sz (fun x h' => ((x = 1 ∧ ∃ v, ov = some v ∧ 0 ≤ v ∧ v ≤ 10000) ∨ (x = 0 ∧ ¬ ∃ v, ov = some v ∧ 0 ≤ v ∧ v ≤ 10000)) ∧ h' = h)) := by
  refine f_start (by decide) (Nat.le_of_ble_eq_true rfl) ?_
  intro p e s m below meth c ls C hr hsz hI hl
  obtain ⟨hx, hb, hml, hown, hnm, hlk, hT, hG, hZ⟩ := id C
  have hK := hG.1
  have hX : fX h sz h := fX.rf
  have hl : lv_has ls 2 [(0, .int (oN ov)), (1, .int 83)] := hl
  rcases ov with _ | v
  · have hl : lv_has ls 2 [(0, .int (-1)), (1, .int 83)] := hl
    refine lv_iload_n hx hb d_GR_isInRange_0 rfl (lv_at hl 1 rfl) ?_
    refine lv_tableIn (off := 83) (tgt := 84) hx hb d_GR_isInRange_1 (by decide) (by decide) (by decide) (by decide) ?_
    refine lv_iload_n hx hb d_GR_isInRange_84 rfl (lv_at hl 0 rfl) ?_
    refine lv_if_lt (tgt := 99) hx hb d_GR_isInRange_85 (by decide) (fun c_1 => ?_) (fun c_1 => absurd (by decide) c_1)
    refine lv_iconst (v := 0) hx hb d_GR_isInRange_99 (by decide) ?_
    exact f_zret C hr rfl hI ⟨Or.inr ⟨rfl, fun ⟨v, q, _⟩ => by cases q⟩, rfl⟩ hX (Nat.le_refl _) (Nat.le_refl _) d_GR_isInRange_100
  · have hl : lv_has ls 2 [(0, .int (nI v)), (1, .int 83)] := hl
    have bv := bo v rfl
    refine lv_iload_n hx hb d_GR_isInRange_0 rfl (lv_at hl 1 rfl) ?_
    refine lv_tableIn (off := 83) (tgt := 84) hx hb d_GR_isInRange_1 (by decide) (by decide) (by decide) (by decide) ?_
    refine lv_iload_n hx hb d_GR_isInRange_84 rfl (lv_at hl 0 rfl) ?_
    refine lv_if_lt (tgt := 99) hx hb d_GR_isInRange_85 (by decide) (fun c_2 => absurd c_2 (nI_pos (by omega))) (fun c_2 => ?_)
    refine lv_iload_n hx hb d_GR_isInRange_88 rfl (lv_at hl 0 rfl) ?_
    refine lv_sipush (v := 10000) hx hb d_GR_isInRange_89 (by decide) ?_
    refine lv_icmp_gt (tgt := 99) hx hb d_GR_isInRange_92 (by decide) (fun c_3 => ?_) (fun c_3 => ?_)
    · have c_3 : 10000 < v := (n_lt (a := 10000) (b := v) (by omega) (by omega)).mp c_3
      refine lv_iconst (v := 0) hx hb d_GR_isInRange_99 (by decide) ?_
      exact f_zret C hr rfl hI ⟨Or.inr ⟨rfl, fun ⟨w9, q, q1, q2⟩ => by cases q; omega⟩, rfl⟩ hX (Nat.le_refl _) (Nat.le_refl _) d_GR_isInRange_100
    · have c_3 : ¬ 10000 < v := fun q => c_3 ((n_lt (a := 10000) (b := v) (by omega) (by omega)).mpr q)
      refine lv_iconst (v := 1) hx hb d_GR_isInRange_95 (by decide) ?_
      refine lv_goto (tgt := 100) hx hb d_GR_isInRange_96 (by decide) ?_
      exact f_zret C hr rfl hI ⟨Or.inl ⟨rfl, v, rfl, by omega, by omega⟩, rfl⟩ hX (Nat.le_refl _) (Nat.le_refl _) d_GR_isInRange_100
set_option maxHeartbeats 4000000 in
set_option maxRecDepth 100000 in
/-- GR_isInRange  -/
theorem c_GR_isInRange_80 (l : Launch) (G : gG) (h : fH) (sz : Nat) (ov : Option Nat) (bo : ∀ v, ov = some v → v < 1000000000) : cM l y_GR_isInRange b_GR_isInRange 2 (some .boolean) { frames := 0, cells := 0, slots := 0, locals := 0 } G [.int (oN ov), .int 80] h sz (cQi G h sz (fun x h' => ((x = 1 ∧ ∃ v, ov = some v ∧ 0 ≤ v ∧ v ≤ 1000000) ∨ (x = 0 ∧ ¬ ∃ v, ov = some v ∧ 0 ≤ v ∧ v ≤ 1000000)) ∧ h' = h)) := by
  refine f_start (by decide) (Nat.le_of_ble_eq_true rfl) ?_
  intro p e s m below meth c ls C hr hsz hI hl
  obtain ⟨hx, hb, hml, hown, hnm, hlk, hT, hG, hZ⟩ := id C
  have hK := hG.1
  have hX : fX h sz h := fX.rf
  have hl : lv_has ls 2 [(0, .int (oN ov)), (1, .int 80)] := hl
  rcases ov with _ | v
  · have hl : lv_has ls 2 [(0, .int (-1)), (1, .int 80)] := hl
    refine lv_iload_n hx hb d_GR_isInRange_0 rfl (lv_at hl 1 rfl) ?_
    refine lv_tableIn (off := 100) (tgt := 101) hx hb d_GR_isInRange_1 (by decide) (by decide) (by decide) (by decide) ?_
    refine lv_iload_n hx hb d_GR_isInRange_101 rfl (lv_at hl 0 rfl) ?_
    refine lv_if_lt (tgt := 115) hx hb d_GR_isInRange_102 (by decide) (fun c_1 => ?_) (fun c_1 => absurd (by decide) c_1)
    refine lv_iconst (v := 0) hx hb d_GR_isInRange_115 (by decide) ?_
    exact f_zret C hr rfl hI ⟨Or.inr ⟨rfl, fun ⟨v, q, _⟩ => by cases q⟩, rfl⟩ hX (Nat.le_refl _) (Nat.le_refl _) d_GR_isInRange_116
  · have hl : lv_has ls 2 [(0, .int (nI v)), (1, .int 80)] := hl
    have bv := bo v rfl
    refine lv_iload_n hx hb d_GR_isInRange_0 rfl (lv_at hl 1 rfl) ?_
    refine lv_tableIn (off := 100) (tgt := 101) hx hb d_GR_isInRange_1 (by decide) (by decide) (by decide) (by decide) ?_
    refine lv_iload_n hx hb d_GR_isInRange_101 rfl (lv_at hl 0 rfl) ?_
    refine lv_if_lt (tgt := 115) hx hb d_GR_isInRange_102 (by decide) (fun c_2 => absurd c_2 (nI_pos (by omega))) (fun c_2 => ?_)
    refine lv_iload_n hx hb d_GR_isInRange_105 rfl (lv_at hl 0 rfl) ?_
    refine lv_ldc (v := 1000000) hx hb hown (hT _ w_483) d_GR_isInRange_106 ?_
    refine lv_icmp_gt (tgt := 115) hx hb d_GR_isInRange_108 (by decide) (fun c_3 => ?_) (fun c_3 => ?_)
    · have c_3 : 1000000 < v := (n_lt (a := 1000000) (b := v) (by omega) (by omega)).mp c_3
      refine lv_iconst (v := 0) hx hb d_GR_isInRange_115 (by decide) ?_
      exact f_zret C hr rfl hI ⟨Or.inr ⟨rfl, fun ⟨w9, q, q1, q2⟩ => by cases q; omega⟩, rfl⟩ hX (Nat.le_refl _) (Nat.le_refl _) d_GR_isInRange_116
    · have c_3 : ¬ 1000000 < v := fun q => c_3 ((n_lt (a := 1000000) (b := v) (by omega) (by omega)).mpr q)
      refine lv_iconst (v := 1) hx hb d_GR_isInRange_111 (by decide) ?_
      refine lv_goto (tgt := 116) hx hb d_GR_isInRange_112 (by decide) ?_
      exact f_zret C hr rfl hI ⟨Or.inl ⟨rfl, v, rfl, by omega, by omega⟩, rfl⟩ hX (Nat.le_refl _) (Nat.le_refl _) d_GR_isInRange_116
set_option maxHeartbeats 4000000 in
set_option maxRecDepth 100000 in
/-- GR_isInRange  -/
theorem c_GR_isInRange_76 (l : Launch) (G : gG) (h : fH) (sz : Nat) (ov : Option Nat) (bo : ∀ v, ov = some v → v < 1000000000) : cM l y_GR_isInRange b_GR_isInRange 2 (some .boolean) { frames := 0, cells := 0, slots := 0, locals := 0 } G [.int (oN ov), .int 76] h sz (cQi G h sz (fun x h' => ((x = 1 ∧ ∃ v, ov = some v ∧ 0 ≤ v ∧ v ≤ 100000000) ∨ (x = 0 ∧ ¬ ∃ v, ov = some v ∧ 0 ≤ v ∧ v ≤ 100000000)) ∧ h' = h)) := by
  refine f_start (by decide) (Nat.le_of_ble_eq_true rfl) ?_
  intro p e s m below meth c ls C hr hsz hI hl
  obtain ⟨hx, hb, hml, hown, hnm, hlk, hT, hG, hZ⟩ := id C
  have hK := hG.1
  have hX : fX h sz h := fX.rf
  have hl : lv_has ls 2 [(0, .int (oN ov)), (1, .int 76)] := hl
  rcases ov with _ | v
  · have hl : lv_has ls 2 [(0, .int (-1)), (1, .int 76)] := hl
    refine lv_iload_n hx hb d_GR_isInRange_0 rfl (lv_at hl 1 rfl) ?_
    refine lv_tableIn (off := 116) (tgt := 117) hx hb d_GR_isInRange_1 (by decide) (by decide) (by decide) (by decide) ?_
    refine lv_iload_n hx hb d_GR_isInRange_117 rfl (lv_at hl 0 rfl) ?_
    refine lv_if_lt (tgt := 131) hx hb d_GR_isInRange_118 (by decide) (fun c_1 => ?_) (fun c_1 => absurd (by decide) c_1)
    refine lv_iconst (v := 0) hx hb d_GR_isInRange_131 (by decide) ?_
    exact f_zret C hr rfl hI ⟨Or.inr ⟨rfl, fun ⟨v, q, _⟩ => by cases q⟩, rfl⟩ hX (Nat.le_refl _) (Nat.le_refl _) d_GR_isInRange_132
  · have hl : lv_has ls 2 [(0, .int (nI v)), (1, .int 76)] := hl
    have bv := bo v rfl
    refine lv_iload_n hx hb d_GR_isInRange_0 rfl (lv_at hl 1 rfl) ?_
    refine lv_tableIn (off := 116) (tgt := 117) hx hb d_GR_isInRange_1 (by decide) (by decide) (by decide) (by decide) ?_
    refine lv_iload_n hx hb d_GR_isInRange_117 rfl (lv_at hl 0 rfl) ?_
    refine lv_if_lt (tgt := 131) hx hb d_GR_isInRange_118 (by decide) (fun c_2 => absurd c_2 (nI_pos (by omega))) (fun c_2 => ?_)
    refine lv_iload_n hx hb d_GR_isInRange_121 rfl (lv_at hl 0 rfl) ?_
    refine lv_ldc (v := 100000000) hx hb hown (hT _ w_484) d_GR_isInRange_122 ?_
    refine lv_icmp_gt (tgt := 131) hx hb d_GR_isInRange_124 (by decide) (fun c_3 => ?_) (fun c_3 => ?_)
    · have c_3 : 100000000 < v := (n_lt (a := 100000000) (b := v) (by omega) (by omega)).mp c_3
      refine lv_iconst (v := 0) hx hb d_GR_isInRange_131 (by decide) ?_
      exact f_zret C hr rfl hI ⟨Or.inr ⟨rfl, fun ⟨w9, q, q1, q2⟩ => by cases q; omega⟩, rfl⟩ hX (Nat.le_refl _) (Nat.le_refl _) d_GR_isInRange_132
    · have c_3 : ¬ 100000000 < v := fun q => c_3 ((n_lt (a := 100000000) (b := v) (by omega) (by omega)).mpr q)
      refine lv_iconst (v := 1) hx hb d_GR_isInRange_127 (by decide) ?_
      refine lv_goto (tgt := 132) hx hb d_GR_isInRange_128 (by decide) ?_
      exact f_zret C hr rfl hI ⟨Or.inl ⟨rfl, v, rfl, by omega, by omega⟩, rfl⟩ hX (Nat.le_refl _) (Nat.le_refl _) d_GR_isInRange_132
set_option maxHeartbeats 4000000 in
set_option maxRecDepth 100000 in
/-- GR_isInRange  -/
theorem c_GR_isInRange_72 (l : Launch) (G : gG) (h : fH) (sz : Nat) (ov : Option Nat) (bo : ∀ v, ov = some v → v < 1000000000) : cM l y_GR_isInRange b_GR_isInRange 2 (some .boolean) { frames := 0, cells := 0, slots := 0, locals := 0 } G [.int (oN ov), .int 72] h sz (cQi G h sz (fun x h' => ((x = 1 ∧ ∃ v, ov = some v ∧ 0 ≤ v ∧ v ≤ 100) ∨ (x = 0 ∧ ¬ ∃ v, ov = some v ∧ 0 ≤ v ∧ v ≤ 100)) ∧ h' = h)) := by
  refine f_start (by decide) (Nat.le_of_ble_eq_true rfl) ?_
  intro p e s m below meth c ls C hr hsz hI hl
  obtain ⟨hx, hb, hml, hown, hnm, hlk, hT, hG, hZ⟩ := id C
  have hK := hG.1
  have hX : fX h sz h := fX.rf
  have hl : lv_has ls 2 [(0, .int (oN ov)), (1, .int 72)] := hl
  rcases ov with _ | v
  · have hl : lv_has ls 2 [(0, .int (-1)), (1, .int 72)] := hl
    refine lv_iload_n hx hb d_GR_isInRange_0 rfl (lv_at hl 1 rfl) ?_
    refine lv_tableIn (off := 132) (tgt := 133) hx hb d_GR_isInRange_1 (by decide) (by decide) (by decide) (by decide) ?_
    refine lv_iload_n hx hb d_GR_isInRange_133 rfl (lv_at hl 0 rfl) ?_
    refine lv_if_lt (tgt := 147) hx hb d_GR_isInRange_134 (by decide) (fun c_1 => ?_) (fun c_1 => absurd (by decide) c_1)
    refine lv_iconst (v := 0) hx hb d_GR_isInRange_147 (by decide) ?_
    exact f_zret C hr rfl hI ⟨Or.inr ⟨rfl, fun ⟨v, q, _⟩ => by cases q⟩, rfl⟩ hX (Nat.le_refl _) (Nat.le_refl _) d_GR_isInRange_148
  · have hl : lv_has ls 2 [(0, .int (nI v)), (1, .int 72)] := hl
    have bv := bo v rfl
    refine lv_iload_n hx hb d_GR_isInRange_0 rfl (lv_at hl 1 rfl) ?_
    refine lv_tableIn (off := 132) (tgt := 133) hx hb d_GR_isInRange_1 (by decide) (by decide) (by decide) (by decide) ?_
    refine lv_iload_n hx hb d_GR_isInRange_133 rfl (lv_at hl 0 rfl) ?_
    refine lv_if_lt (tgt := 147) hx hb d_GR_isInRange_134 (by decide) (fun c_2 => absurd c_2 (nI_pos (by omega))) (fun c_2 => ?_)
    refine lv_iload_n hx hb d_GR_isInRange_137 rfl (lv_at hl 0 rfl) ?_
    refine lv_bipush (v := 100) hx hb d_GR_isInRange_138 (by decide) ?_
    refine lv_icmp_gt (tgt := 147) hx hb d_GR_isInRange_140 (by decide) (fun c_3 => ?_) (fun c_3 => ?_)
    · have c_3 : 100 < v := (n_lt (a := 100) (b := v) (by omega) (by omega)).mp c_3
      refine lv_iconst (v := 0) hx hb d_GR_isInRange_147 (by decide) ?_
      exact f_zret C hr rfl hI ⟨Or.inr ⟨rfl, fun ⟨w9, q, q1, q2⟩ => by cases q; omega⟩, rfl⟩ hX (Nat.le_refl _) (Nat.le_refl _) d_GR_isInRange_148
    · have c_3 : ¬ 100 < v := fun q => c_3 ((n_lt (a := 100) (b := v) (by omega) (by omega)).mpr q)
      refine lv_iconst (v := 1) hx hb d_GR_isInRange_143 (by decide) ?_
      refine lv_goto (tgt := 148) hx hb d_GR_isInRange_144 (by decide) ?_
      exact f_zret C hr rfl hI ⟨Or.inl ⟨rfl, v, rfl, by omega, by omega⟩, rfl⟩ hX (Nat.le_refl _) (Nat.le_refl _) d_GR_isInRange_148
set_option maxHeartbeats 4000000 in
set_option maxRecDepth 100000 in
/-- GR_isInRange  -/
theorem c_GR_isInRange_78 (l : Launch) (G : gG) (h : fH) (sz : Nat) (ov : Option Nat) (bo : ∀ v, ov = some v → v < 1000000000) : cM l y_GR_isInRange b_GR_isInRange 2 (some .boolean) { frames := 0, cells := 0, slots := 0, locals := 0 } G [.int (oN ov), .int 78] h sz (cQi G h sz (fun x h' => ((x = 1 ∧ ∃ v, ov = some v ∧ 1 ≤ v ∧ v ≤ 1000) ∨ (x = 0 ∧ ¬ ∃ v, ov = some v ∧ 1 ≤ v ∧ v ≤ 1000)) ∧ h' = h)) := by
  refine f_start (by decide) (Nat.le_of_ble_eq_true rfl) ?_
  intro p e s m below meth c ls C hr hsz hI hl
  obtain ⟨hx, hb, hml, hown, hnm, hlk, hT, hG, hZ⟩ := id C
  have hK := hG.1
  have hX : fX h sz h := fX.rf
  have hl : lv_has ls 2 [(0, .int (oN ov)), (1, .int 78)] := hl
  rcases ov with _ | v
  · have hl : lv_has ls 2 [(0, .int (-1)), (1, .int 78)] := hl
    refine lv_iload_n hx hb d_GR_isInRange_0 rfl (lv_at hl 1 rfl) ?_
    refine lv_tableIn (off := 148) (tgt := 149) hx hb d_GR_isInRange_1 (by decide) (by decide) (by decide) (by decide) ?_
    refine lv_iload_n hx hb d_GR_isInRange_149 rfl (lv_at hl 0 rfl) ?_
    refine lv_iconst (v := 1) hx hb d_GR_isInRange_150 (by decide) ?_
    refine lv_icmp_lt (tgt := 165) hx hb d_GR_isInRange_151 (by decide) (fun c_1 => ?_) (fun c_1 => absurd (by decide) c_1)
    refine lv_iconst (v := 0) hx hb d_GR_isInRange_165 (by decide) ?_
    exact f_zret C hr rfl hI ⟨Or.inr ⟨rfl, fun ⟨v, q, _⟩ => by cases q⟩, rfl⟩ hX (Nat.le_refl _) (Nat.le_refl _) d_GR_isInRange_166
  · have hl : lv_has ls 2 [(0, .int (nI v)), (1, .int 78)] := hl
    have bv := bo v rfl
    refine lv_iload_n hx hb d_GR_isInRange_0 rfl (lv_at hl 1 rfl) ?_
    refine lv_tableIn (off := 148) (tgt := 149) hx hb d_GR_isInRange_1 (by decide) (by decide) (by decide) (by decide) ?_
    refine lv_iload_n hx hb d_GR_isInRange_149 rfl (lv_at hl 0 rfl) ?_
    refine lv_iconst (v := 1) hx hb d_GR_isInRange_150 (by decide) ?_
    refine lv_icmp_lt (tgt := 165) hx hb d_GR_isInRange_151 (by decide) (fun c_2 => ?_) (fun c_2 => ?_)
    · have c_2 : v < 1 := (n_lt (a := v) (b := 1) (by omega) (by omega)).mp c_2
      refine lv_iconst (v := 0) hx hb d_GR_isInRange_165 (by decide) ?_
      exact f_zret C hr rfl hI ⟨Or.inr ⟨rfl, fun ⟨w9, q, q1, q2⟩ => by cases q; omega⟩, rfl⟩ hX (Nat.le_refl _) (Nat.le_refl _) d_GR_isInRange_166
    · have c_2 : ¬ v < 1 := fun q => c_2 ((n_lt (a := v) (b := 1) (by omega) (by omega)).mpr q)
      refine lv_iload_n hx hb d_GR_isInRange_154 rfl (lv_at hl 0 rfl) ?_
      refine lv_sipush (v := 1000) hx hb d_GR_isInRange_155 (by decide) ?_
      refine lv_icmp_gt (tgt := 165) hx hb d_GR_isInRange_158 (by decide) (fun c_3 => ?_) (fun c_3 => ?_)
      · have c_3 : 1000 < v := (n_lt (a := 1000) (b := v) (by omega) (by omega)).mp c_3
        refine lv_iconst (v := 0) hx hb d_GR_isInRange_165 (by decide) ?_
        exact f_zret C hr rfl hI ⟨Or.inr ⟨rfl, fun ⟨w9, q, q1, q2⟩ => by cases q; omega⟩, rfl⟩ hX (Nat.le_refl _) (Nat.le_refl _) d_GR_isInRange_166
      · have c_3 : ¬ 1000 < v := fun q => c_3 ((n_lt (a := 1000) (b := v) (by omega) (by omega)).mpr q)
        refine lv_iconst (v := 1) hx hb d_GR_isInRange_161 (by decide) ?_
        refine lv_goto (tgt := 166) hx hb d_GR_isInRange_162 (by decide) ?_
        exact f_zret C hr rfl hI ⟨Or.inl ⟨rfl, v, rfl, by omega, by omega⟩, rfl⟩ hX (Nat.le_refl _) (Nat.le_refl _) d_GR_isInRange_166
theorem c_GR_isInRange (l : Launch) (G : gG) (h : fH) (sz : Nat) (ov : Option Nat) (bo : ∀ v, ov = some v → v < 1000000000) (ch lo hi : Nat) (hc : (ch, lo, hi) ∈ [(71, 0, 9), (83, 0, 10000), (80, 0, 1000000), (76, 0, 100000000), (72, 0, 100), (78, 1, 1000)]) : cM l y_GR_isInRange b_GR_isInRange 2 (some .boolean) { frames := 0, cells := 0, slots := 0, locals := 0 } G [.int (oN ov), .int (nI ch)] h sz (cQi G h sz (fun x h' => ((x = 1 ∧ ∃ v, ov = some v ∧ lo ≤ v ∧ v ≤ hi) ∨ (x = 0 ∧ ¬ ∃ v, ov = some v ∧ lo ≤ v ∧ v ≤ hi)) ∧ h' = h)) := by
  simp only [List.mem_cons, Prod.mk.injEq, List.not_mem_nil, or_false] at hc
  rcases hc with ⟨rfl, rfl, rfl⟩ | ⟨rfl, rfl, rfl⟩ | ⟨rfl, rfl, rfl⟩ | ⟨rfl, rfl, rfl⟩ | ⟨rfl, rfl, rfl⟩ | ⟨rfl, rfl, rfl⟩
  · exact c_GR_isInRange_71 l G h sz ov bo
  · exact c_GR_isInRange_83 l G h sz ov bo
  · exact c_GR_isInRange_80 l G h sz ov bo
  · exact c_GR_isInRange_76 l G h sz ov bo
  · exact c_GR_isInRange_72 l G h sz ov bo
  · exact c_GR_isInRange_78 l G h sz ov bo
