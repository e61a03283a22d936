theorem gm_DR_isLot : gM y_DR_isLot b_DR_isLot 1 (some .boolean) 1 := ⟨w_560, w_1, ⟨by decide, by decide⟩, by decide +kernel⟩
set_option maxHeartbeats 4000000 in
set_option maxRecDepth 100000 in
/-- DR_isLot  -/
theorem c_DR_isLot (l : Launch) (G : gG) (h : fH) (sz : Nat) (a : Int32) : cM l y_DR_isLot b_DR_isLot 1 (some .boolean) { frames := 0, cells := 0, slots := 0, locals := 0 } G [.int a] h sz (cQi G h sz (fun (r : Int32) h' => r = (if a < 0 then 0 else (if 30 ≤ a then 0 else 1)) ∧ h' = h)) := by
  refine f_start (by decide) (Nat.le_of_ble_eq_true rfl) ?_
  intro p e s m below meth c ls C hr hsz hI hl
  obtain ⟨hx, hb, hml, hown, hnm, hlk, hT, hG, hZ⟩ := id C
  have hK := hG.1
  have hX : fX h sz h := fX.rf
  have hl : lv_has ls 1 [(0, .int a)] := hl
  refine lv_iload_n hx hb d_DR_isLot_0 rfl (lv_at hl 0 rfl) ?_
  refine lv_if_lt (tgt := 14) hx hb d_DR_isLot_1 (by decide) (fun c_1 => ?_) (fun c_1 => ?_)
  · skip
    refine lv_iconst (v := 0) hx hb d_DR_isLot_14 (by decide) ?_
    exact f_zret C hr rfl hI ⟨by rw [if_pos c_1], rfl⟩ hX (Nat.le_refl _) (Nat.le_refl _) d_DR_isLot_15
  · skip
    refine lv_iload_n hx hb d_DR_isLot_4 rfl (lv_at hl 0 rfl) ?_
    refine lv_bipush (v := 30) hx hb d_DR_isLot_5 (by decide) ?_
    refine lv_icmp_ge (tgt := 14) hx hb d_DR_isLot_7 (by decide) (fun c_2 => ?_) (fun c_2 => ?_)
    · skip
      refine lv_iconst (v := 0) hx hb d_DR_isLot_14 (by decide) ?_
      exact f_zret C hr rfl hI ⟨by rw [if_neg c_1, if_pos c_2], rfl⟩ hX (Nat.le_refl _) (Nat.le_refl _) d_DR_isLot_15
    · skip
      refine lv_iconst (v := 1) hx hb d_DR_isLot_10 (by decide) ?_
      refine lv_goto (tgt := 15) hx hb d_DR_isLot_11 (by decide) ?_
      exact f_zret C hr rfl hI ⟨by rw [if_neg c_1, if_neg c_2], rfl⟩ hX (Nat.le_refl _) (Nat.le_refl _) d_DR_isLot_15
theorem gm_DR_isFactKind : gM y_DR_isFactKind b_DR_isFactKind 1 (some .boolean) 1 := ⟨w_563, w_1, ⟨by decide, by decide⟩, by decide +kernel⟩
set_option maxHeartbeats 4000000 in
set_option maxRecDepth 100000 in
/-- DR_isFactKind  -/
theorem c_DR_isFactKind (l : Launch) (G : gG) (h : fH) (sz : Nat) (a : Int32) : cM l y_DR_isFactKind b_DR_isFactKind 1 (some .boolean) { frames := 0, cells := 0, slots := 0, locals := 0 } G [.int a] h sz (cQi G h sz (fun (r : Int32) h' => r = (if a < 0 then 0 else (if 6 ≤ a then 0 else 1)) ∧ h' = h)) := by
  refine f_start (by decide) (Nat.le_of_ble_eq_true rfl) ?_
  intro p e s m below meth c ls C hr hsz hI hl
  obtain ⟨hx, hb, hml, hown, hnm, hlk, hT, hG, hZ⟩ := id C
  have hK := hG.1
  have hX : fX h sz h := fX.rf
  have hl : lv_has ls 1 [(0, .int a)] := hl
  refine lv_iload_n hx hb d_DR_isFactKind_0 rfl (lv_at hl 0 rfl) ?_
  refine lv_if_lt (tgt := 14) hx hb d_DR_isFactKind_1 (by decide) (fun c_1 => ?_) (fun c_1 => ?_)
  · skip
    refine lv_iconst (v := 0) hx hb d_DR_isFactKind_14 (by decide) ?_
    exact f_zret C hr rfl hI ⟨by rw [if_pos c_1], rfl⟩ hX (Nat.le_refl _) (Nat.le_refl _) d_DR_isFactKind_15
  · skip
    refine lv_iload_n hx hb d_DR_isFactKind_4 rfl (lv_at hl 0 rfl) ?_
    refine lv_bipush (v := 6) hx hb d_DR_isFactKind_5 (by decide) ?_
    refine lv_icmp_ge (tgt := 14) hx hb d_DR_isFactKind_7 (by decide) (fun c_2 => ?_) (fun c_2 => ?_)
    · skip
      refine lv_iconst (v := 0) hx hb d_DR_isFactKind_14 (by decide) ?_
      exact f_zret C hr rfl hI ⟨by rw [if_neg c_1, if_pos c_2], rfl⟩ hX (Nat.le_refl _) (Nat.le_refl _) d_DR_isFactKind_15
    · skip
      refine lv_iconst (v := 1) hx hb d_DR_isFactKind_10 (by decide) ?_
      refine lv_goto (tgt := 15) hx hb d_DR_isFactKind_11 (by decide) ?_
      exact f_zret C hr rfl hI ⟨by rw [if_neg c_1, if_neg c_2], rfl⟩ hX (Nat.le_refl _) (Nat.le_refl _) d_DR_isFactKind_15
theorem gm_DR_isDay : gM y_DR_isDay b_DR_isDay 2 (some .boolean) 1 := ⟨w_548, w_1, ⟨by decide, by decide⟩, by decide +kernel⟩
set_option maxHeartbeats 4000000 in
set_option maxRecDepth 100000 in
/-- DR_isDay  -/
theorem c_DR_isDay (l : Launch) (G : gG) (h : fH) (sz : Nat) (a : Int64) : cM l y_DR_isDay b_DR_isDay 2 (some .boolean) { frames := 0, cells := 0, slots := 0, locals := 0 } G [.long a] h sz (cQi G h sz (fun (r : Int32) h' => r = (if a < 0 then 0 else (if 100000 < a then 0 else 1)) ∧ h' = h)) := by
  refine f_start (by decide) (Nat.le_of_ble_eq_true rfl) ?_
  intro p e s m below meth c ls C hr hsz hI hl
  obtain ⟨hx, hb, hml, hown, hnm, hlk, hT, hG, hZ⟩ := id C
  have hK := hG.1
  have hX : fX h sz h := fX.rf
  have hl : lv_has ls 2 [(0, .long a)] := hl
  refine lv_lload_n hx hb d_DR_isDay_0 rfl (lv_at hl 0 rfl) ?_
  refine lv_lconst (v := 0) hx hb d_DR_isDay_1 (by decide) ?_
  refine f_lc_lt (tgt := 18) hx hb d_DR_isDay_2 d_DR_isDay_3 (by decide) (fun c_1 => ?_) (fun c_1 => ?_)
  · skip
    refine lv_iconst (v := 0) hx hb d_DR_isDay_18 (by decide) ?_
    exact f_zret C hr rfl hI ⟨by rw [if_pos c_1], rfl⟩ hX (Nat.le_refl _) (Nat.le_refl _) d_DR_isDay_19
  · skip
    refine lv_lload_n hx hb d_DR_isDay_6 rfl (lv_at hl 0 rfl) ?_
    refine lv_ldc2 (v := 100000) hx hb hown (hT _ w_549) d_DR_isDay_7 ?_
    refine f_lc_gt (tgt := 18) hx hb d_DR_isDay_10 d_DR_isDay_11 (by decide) (fun c_2 => ?_) (fun c_2 => ?_)
    · skip
      refine lv_iconst (v := 0) hx hb d_DR_isDay_18 (by decide) ?_
      exact f_zret C hr rfl hI ⟨by rw [if_neg c_1, if_pos c_2], rfl⟩ hX (Nat.le_refl _) (Nat.le_refl _) d_DR_isDay_19
    · skip
      refine lv_iconst (v := 1) hx hb d_DR_isDay_14 (by decide) ?_
      refine lv_goto (tgt := 19) hx hb d_DR_isDay_15 (by decide) ?_
      exact f_zret C hr rfl hI ⟨by rw [if_neg c_1, if_neg c_2], rfl⟩ hX (Nat.le_refl _) (Nat.le_refl _) d_DR_isDay_19
theorem gm_DR_isMonth : gM y_DR_isMonth b_DR_isMonth 1 (some .boolean) 1 := ⟨w_702, w_1, ⟨by decide, by decide⟩, by decide +kernel⟩
set_option maxHeartbeats 4000000 in
set_option maxRecDepth 100000 in
/-- DR_isMonth  -/
theorem c_DR_isMonth (l : Launch) (G : gG) (h : fH) (sz : Nat) (a : Int32) : cM l y_DR_isMonth b_DR_isMonth 1 (some .boolean) { frames := 0, cells := 0, slots := 0, locals := 0 } G [.int a] h sz (cQi G h sz (fun (r : Int32) h' => r = (if a < 0 then 0 else (if 3000 < a then 0 else 1)) ∧ h' = h)) := by
  refine f_start (by decide) (Nat.le_of_ble_eq_true rfl) ?_
  intro p e s m below meth c ls C hr hsz hI hl
  obtain ⟨hx, hb, hml, hown, hnm, hlk, hT, hG, hZ⟩ := id C
  have hK := hG.1
  have hX : fX h sz h := fX.rf
  have hl : lv_has ls 1 [(0, .int a)] := hl
  refine lv_iload_n hx hb d_DR_isMonth_0 rfl (lv_at hl 0 rfl) ?_
  refine lv_if_lt (tgt := 15) hx hb d_DR_isMonth_1 (by decide) (fun c_1 => ?_) (fun c_1 => ?_)
  · skip
    refine lv_iconst (v := 0) hx hb d_DR_isMonth_15 (by decide) ?_
    exact f_zret C hr rfl hI ⟨by rw [if_pos c_1], rfl⟩ hX (Nat.le_refl _) (Nat.le_refl _) d_DR_isMonth_16
  · skip
    refine lv_iload_n hx hb d_DR_isMonth_4 rfl (lv_at hl 0 rfl) ?_
    refine lv_sipush (v := 3000) hx hb d_DR_isMonth_5 (by decide) ?_
    refine lv_icmp_gt (tgt := 15) hx hb d_DR_isMonth_8 (by decide) (fun c_2 => ?_) (fun c_2 => ?_)
    · skip
      refine lv_iconst (v := 0) hx hb d_DR_isMonth_15 (by decide) ?_
      exact f_zret C hr rfl hI ⟨by rw [if_neg c_1, if_pos c_2], rfl⟩ hX (Nat.le_refl _) (Nat.le_refl _) d_DR_isMonth_16
    · skip
      refine lv_iconst (v := 1) hx hb d_DR_isMonth_11 (by decide) ?_
      refine lv_goto (tgt := 16) hx hb d_DR_isMonth_12 (by decide) ?_
      exact f_zret C hr rfl hI ⟨by rw [if_neg c_1, if_neg c_2], rfl⟩ hX (Nat.le_refl _) (Nat.le_refl _) d_DR_isMonth_16
theorem gm_DR_isPart : gM y_DR_isPart b_DR_isPart 1 (some .boolean) 1 := ⟨w_620, w_1, ⟨by decide, by decide⟩, by decide +kernel⟩
set_option maxHeartbeats 4000000 in
set_option maxRecDepth 100000 in
/-- DR_isPart  -/
theorem c_DR_isPart (l : Launch) (G : gG) (h : fH) (sz : Nat) (a : Int32) : cM l y_DR_isPart b_DR_isPart 1 (some .boolean) { frames := 0, cells := 0, slots := 0, locals := 0 } G [.int a] h sz (cQi G h sz (fun (r : Int32) h' => r = (if a = 0 then 1 else (if a = 1 then 1 else 0)) ∧ h' = h)) := by
  refine f_start (by decide) (Nat.le_of_ble_eq_true rfl) ?_
  intro p e s m below meth c ls C hr hsz hI hl
  obtain ⟨hx, hb, hml, hown, hnm, hlk, hT, hG, hZ⟩ := id C
  have hK := hG.1
  have hX : fX h sz h := fX.rf
  have hl : lv_has ls 1 [(0, .int a)] := hl
  refine lv_iload_n hx hb d_DR_isPart_0 rfl (lv_at hl 0 rfl) ?_
  refine lv_if_eq (tgt := 9) hx hb d_DR_isPart_1 (by decide) (fun c_1 => ?_) (fun c_1 => ?_)
  · skip
    refine lv_iconst (v := 1) hx hb d_DR_isPart_9 (by decide) ?_
    refine lv_goto (tgt := 14) hx hb d_DR_isPart_10 (by decide) ?_
    exact f_zret C hr rfl hI ⟨by rw [if_pos c_1], rfl⟩ hX (Nat.le_refl _) (Nat.le_refl _) d_DR_isPart_14
  · skip
    refine lv_iload_n hx hb d_DR_isPart_4 rfl (lv_at hl 0 rfl) ?_
    refine lv_iconst (v := 1) hx hb d_DR_isPart_5 (by decide) ?_
    refine lv_icmp_ne (tgt := 13) hx hb d_DR_isPart_6 (by decide) (fun c_2 => ?_) (fun c_2 => ?_)
    · skip
      refine lv_iconst (v := 0) hx hb d_DR_isPart_13 (by decide) ?_
      exact f_zret C hr rfl hI ⟨by rw [if_neg c_1, if_neg c_2], rfl⟩ hX (Nat.le_refl _) (Nat.le_refl _) d_DR_isPart_14
    · skip
      refine lv_iconst (v := 1) hx hb d_DR_isPart_9 (by decide) ?_
      refine lv_goto (tgt := 14) hx hb d_DR_isPart_10 (by decide) ?_
      exact f_zret C hr rfl hI ⟨by rw [if_neg c_1, if_pos c_2], rfl⟩ hX (Nat.le_refl _) (Nat.le_refl _) d_DR_isPart_14
theorem gm_DR_lastDayOf : gM y_DR_lastDayOf b_DR_lastDayOf 1 (some .int) 1 := ⟨w_706, w_1, ⟨by decide, by decide⟩, by decide +kernel⟩
set_option maxHeartbeats 4000000 in
set_option maxRecDepth 100000 in
/-- DR_lastDayOf  -/
theorem c_DR_lastDayOf (l : Launch) (G : gG) (h : fH) (sz : Nat) (a : Int32) : cM l y_DR_lastDayOf b_DR_lastDayOf 1 (some .int) { frames := 0, cells := 0, slots := 0, locals := 0 } G [.int a] h sz (cQi G h sz (fun (r : Int32) h' => r = ((30 * a) + 30) - 1 ∧ h' = h)) := by
  refine f_start (by decide) (Nat.le_of_ble_eq_true rfl) ?_
  intro p e s m below meth c ls C hr hsz hI hl
  obtain ⟨hx, hb, hml, hown, hnm, hlk, hT, hG, hZ⟩ := id C
  have hK := hG.1
  have hX : fX h sz h := fX.rf
  have hl : lv_has ls 1 [(0, .int a)] := hl
  refine lv_bipush (v := 30) hx hb d_DR_lastDayOf_0 (by decide) ?_
  refine lv_iload_n hx hb d_DR_lastDayOf_2 rfl (lv_at hl 0 rfl) ?_
  refine lv_imul hx hb d_DR_lastDayOf_3 ?_
  refine lv_bipush (v := 30) hx hb d_DR_lastDayOf_4 (by decide) ?_
  refine lv_iadd hx hb d_DR_lastDayOf_6 ?_
  refine lv_iconst (v := 1) hx hb d_DR_lastDayOf_7 (by decide) ?_
  refine lv_isub hx hb d_DR_lastDayOf_8 ?_
  exact f_iret C hr hI ⟨rfl, rfl⟩ hX (Nat.le_refl _) (Nat.le_refl _) d_DR_lastDayOf_9
theorem gm_DR_greatestValue : gM y_DR_greatestValue b_DR_greatestValue 1 (some .int) 1 := ⟨w_567, w_1, ⟨by decide, by decide⟩, by decide +kernel⟩
set_option maxHeartbeats 4000000 in
set_option maxRecDepth 100000 in
/-- DR_greatestValue  -/
theorem c_DR_greatestValue (l : Launch) (G : gG) (h : fH) (sz : Nat) (a : Int32) : cM l y_DR_greatestValue b_DR_greatestValue 1 (some .int) { frames := 0, cells := 0, slots := 0, locals := 0 } G [.int a] h sz (cQi G h sz (fun (r : Int32) h' => r = (if a.toInt = 0 then 9 else (if a.toInt = 1 then 10000 else (if a.toInt = 2 then 1000000 else (if a.toInt = 3 then 100000000 else 1000000)))) ∧ h' = h)) := by
  refine f_start (by decide) (Nat.le_of_ble_eq_true rfl) ?_
  intro p e s m below meth c ls C hr hsz hI hl
  obtain ⟨hx, hb, hml, hown, hnm, hlk, hT, hG, hZ⟩ := id C
  have hK := hG.1
  have hX : fX h sz h := fX.rf
  have hl : lv_has ls 1 [(0, .int a)] := hl
  refine lv_iload_n hx hb d_DR_greatestValue_0 rfl (lv_at hl 0 rfl) ?_
  rcases (show a.toInt = 0 ∨ a.toInt = 1 ∨ a.toInt = 2 ∨ a.toInt = 3 ∨ (a.toInt < 0 ∨ 3 < a.toInt) by omega) with e_1 | e_1 | e_1 | e_1 | e_1
  · refine lv_tableIn (off := 31) (tgt := 32) hx hb d_DR_greatestValue_1 (by rw [e_1]; decide) (by rw [e_1]; decide) (by rw [e_1]; decide) (by decide) ?_
    refine lv_bipush (v := 9) hx hb d_DR_greatestValue_32 (by decide) ?_
    exact f_iret C hr hI ⟨by rw [if_pos e_1], rfl⟩ hX (Nat.le_refl _) (Nat.le_refl _) d_DR_greatestValue_34
  · refine lv_tableIn (off := 34) (tgt := 35) hx hb d_DR_greatestValue_1 (by rw [e_1]; decide) (by rw [e_1]; decide) (by rw [e_1]; decide) (by decide) ?_
    refine lv_sipush (v := 10000) hx hb d_DR_greatestValue_35 (by decide) ?_
    exact f_iret C hr hI ⟨by rw [if_neg (show ¬ a.toInt = 0 by omega), if_pos e_1], rfl⟩ hX (Nat.le_refl _) (Nat.le_refl _) d_DR_greatestValue_38
  · refine lv_tableIn (off := 41) (tgt := 42) hx hb d_DR_greatestValue_1 (by rw [e_1]; decide) (by rw [e_1]; decide) (by rw [e_1]; decide) (by decide) ?_
    refine lv_ldc (v := 1000000) hx hb hown (hT _ w_569) d_DR_greatestValue_42 ?_
    exact f_iret C hr hI ⟨by rw [if_neg (show ¬ a.toInt = 0 by omega), if_neg (show ¬ a.toInt = 1 by omega), if_pos e_1], rfl⟩ hX (Nat.le_refl _) (Nat.le_refl _) d_DR_greatestValue_44
  · refine lv_tableIn (off := 38) (tgt := 39) hx hb d_DR_greatestValue_1 (by rw [e_1]; decide) (by rw [e_1]; decide) (by rw [e_1]; decide) (by decide) ?_
    refine lv_ldc (v := 100000000) hx hb hown (hT _ w_568) d_DR_greatestValue_39 ?_
    exact f_iret C hr hI ⟨by rw [if_neg (show ¬ a.toInt = 0 by omega), if_neg (show ¬ a.toInt = 1 by omega), if_neg (show ¬ a.toInt = 2 by omega), if_pos e_1], rfl⟩ hX (Nat.le_refl _) (Nat.le_refl _) d_DR_greatestValue_41
  · refine lv_tableOut (tgt := 42) hx hb d_DR_greatestValue_1 e_1 (by decide) ?_
    refine lv_ldc (v := 1000000) hx hb hown (hT _ w_569) d_DR_greatestValue_42 ?_
    exact f_iret C hr hI ⟨by rw [if_neg (show ¬ a.toInt = 0 by omega), if_neg (show ¬ a.toInt = 1 by omega), if_neg (show ¬ a.toInt = 2 by omega), if_neg (show ¬ a.toInt = 3 by omega)], rfl⟩ hX (Nat.le_refl _) (Nat.le_refl _) d_DR_greatestValue_44
theorem gm_WO_isBlank : gM y_WO_isBlank b_WO_isBlank 1 (some .boolean) 1 := ⟨w_393, w_17, ⟨by decide, by decide⟩, by decide +kernel⟩
set_option maxHeartbeats 4000000 in
set_option maxRecDepth 100000 in
/-- WO_isBlank  -/
theorem c_WO_isBlank (l : Launch) (G : gG) (h : fH) (sz : Nat) (a : Int32) : cM l y_WO_isBlank b_WO_isBlank 1 (some .boolean) { frames := 0, cells := 0, slots := 0, locals := 0 } G [.int a] h sz (cQi G h sz (fun (r : Int32) h' => r = (if a = 32 then 1 else (if a = 10 then 1 else 0)) ∧ h' = h)) := by
  refine f_start (by decide) (Nat.le_of_ble_eq_true rfl) ?_
  intro p e s m below meth c ls C hr hsz hI hl
  obtain ⟨hx, hb, hml, hown, hnm, hlk, hT, hG, hZ⟩ := id C
  have hK := hG.1
  have hX : fX h sz h := fX.rf
  have hl : lv_has ls 1 [(0, .int a)] := hl
  refine lv_iload_n hx hb d_WO_isBlank_0 rfl (lv_at hl 0 rfl) ?_
  refine lv_bipush (v := 32) hx hb d_WO_isBlank_1 (by decide) ?_
  refine lv_icmp_eq (tgt := 12) hx hb d_WO_isBlank_3 (by decide) (fun c_1 => ?_) (fun c_1 => ?_)
  · skip
    refine lv_iconst (v := 1) hx hb d_WO_isBlank_12 (by decide) ?_
    refine lv_goto (tgt := 17) hx hb d_WO_isBlank_13 (by decide) ?_
    exact f_zret C hr rfl hI ⟨by rw [if_pos c_1], rfl⟩ hX (Nat.le_refl _) (Nat.le_refl _) d_WO_isBlank_17
  · skip
    refine lv_iload_n hx hb d_WO_isBlank_6 rfl (lv_at hl 0 rfl) ?_
    refine lv_bipush (v := 10) hx hb d_WO_isBlank_7 (by decide) ?_
    refine lv_icmp_ne (tgt := 16) hx hb d_WO_isBlank_9 (by decide) (fun c_2 => ?_) (fun c_2 => ?_)
    · skip
      refine lv_iconst (v := 0) hx hb d_WO_isBlank_16 (by decide) ?_
      exact f_zret C hr rfl hI ⟨by rw [if_neg c_1, if_neg c_2], rfl⟩ hX (Nat.le_refl _) (Nat.le_refl _) d_WO_isBlank_17
    · skip
      refine lv_iconst (v := 1) hx hb d_WO_isBlank_12 (by decide) ?_
      refine lv_goto (tgt := 17) hx hb d_WO_isBlank_13 (by decide) ?_
      exact f_zret C hr rfl hI ⟨by rw [if_neg c_1, if_pos c_2], rfl⟩ hX (Nat.le_refl _) (Nat.le_refl _) d_WO_isBlank_17
theorem gm_GR_isSlot : gM y_GR_isSlot b_GR_isSlot 1 (some .boolean) 1 := ⟨w_474, w_18, ⟨by decide, by decide⟩, by decide +kernel⟩
set_option maxHeartbeats 4000000 in
set_option maxRecDepth 100000 in
/-- GR_isSlot  -/
theorem c_GR_isSlot (l : Launch) (G : gG) (h : fH) (sz : Nat) (a : Int32) : cM l y_GR_isSlot b_GR_isSlot 1 (some .boolean) { frames := 0, cells := 0, slots := 0, locals := 0 } G [.int a] h sz (cQi G h sz (fun (r : Int32) h' => r = (if a < 65 then 0 else (if 90 < a then 0 else 1)) ∧ h' = h)) := by
  refine f_start (by decide) (Nat.le_of_ble_eq_true rfl) ?_
  intro p e s m below meth c ls C hr hsz hI hl
  obtain ⟨hx, hb, hml, hown, hnm, hlk, hT, hG, hZ⟩ := id C
  have hK := hG.1
  have hX : fX h sz h := fX.rf
  have hl : lv_has ls 1 [(0, .int a)] := hl
  refine lv_iload_n hx hb d_GR_isSlot_0 rfl (lv_at hl 0 rfl) ?_
  refine lv_bipush (v := 65) hx hb d_GR_isSlot_1 (by decide) ?_
  refine lv_icmp_lt (tgt := 16) hx hb d_GR_isSlot_3 (by decide) (fun c_1 => ?_) (fun c_1 => ?_)
  · skip
    refine lv_iconst (v := 0) hx hb d_GR_isSlot_16 (by decide) ?_
    exact f_zret C hr rfl hI ⟨by rw [if_pos c_1], rfl⟩ hX (Nat.le_refl _) (Nat.le_refl _) d_GR_isSlot_17
  · skip
    refine lv_iload_n hx hb d_GR_isSlot_6 rfl (lv_at hl 0 rfl) ?_
    refine lv_bipush (v := 90) hx hb d_GR_isSlot_7 (by decide) ?_
    refine lv_icmp_gt (tgt := 16) hx hb d_GR_isSlot_9 (by decide) (fun c_2 => ?_) (fun c_2 => ?_)
    · skip
      refine lv_iconst (v := 0) hx hb d_GR_isSlot_16 (by decide) ?_
      exact f_zret C hr rfl hI ⟨by rw [if_neg c_1, if_pos c_2], rfl⟩ hX (Nat.le_refl _) (Nat.le_refl _) d_GR_isSlot_17
    · skip
      refine lv_iconst (v := 1) hx hb d_GR_isSlot_12 (by decide) ?_
      refine lv_goto (tgt := 17) hx hb d_GR_isSlot_13 (by decide) ?_
      exact f_zret C hr rfl hI ⟨by rw [if_neg c_1, if_neg c_2], rfl⟩ hX (Nat.le_refl _) (Nat.le_refl _) d_GR_isSlot_17
theorem gm_MO_isBlank : gM y_MO_isBlank b_MO_isBlank 1 (some .boolean) 1 := ⟨w_944, w_10, ⟨by decide, by decide⟩, by decide +kernel⟩
set_option maxHeartbeats 4000000 in
set_option maxRecDepth 100000 in
/-- MO_isBlank  -/
theorem c_MO_isBlank (l : Launch) (G : gG) (h : fH) (sz : Nat) (a : Int32) : cM l y_MO_isBlank b_MO_isBlank 1 (some .boolean) { frames := 0, cells := 0, slots := 0, locals := 0 } G [.int a] h sz (cQi G h sz (fun (r : Int32) h' => r = (if a = 32 then 1 else (if a = 10 then 1 else 0)) ∧ h' = h)) := by
  refine f_start (by decide) (Nat.le_of_ble_eq_true rfl) ?_
  intro p e s m below meth c ls C hr hsz hI hl
  obtain ⟨hx, hb, hml, hown, hnm, hlk, hT, hG, hZ⟩ := id C
  have hK := hG.1
  have hX : fX h sz h := fX.rf
  have hl : lv_has ls 1 [(0, .int a)] := hl
  refine lv_iload_n hx hb d_MO_isBlank_0 rfl (lv_at hl 0 rfl) ?_
  refine lv_bipush (v := 32) hx hb d_MO_isBlank_1 (by decide) ?_
  refine lv_icmp_eq (tgt := 12) hx hb d_MO_isBlank_3 (by decide) (fun c_1 => ?_) (fun c_1 => ?_)
  · skip
    refine lv_iconst (v := 1) hx hb d_MO_isBlank_12 (by decide) ?_
    refine lv_goto (tgt := 17) hx hb d_MO_isBlank_13 (by decide) ?_
    exact f_zret C hr rfl hI ⟨by rw [if_pos c_1], rfl⟩ hX (Nat.le_refl _) (Nat.le_refl _) d_MO_isBlank_17
  · skip
    refine lv_iload_n hx hb d_MO_isBlank_6 rfl (lv_at hl 0 rfl) ?_
    refine lv_bipush (v := 10) hx hb d_MO_isBlank_7 (by decide) ?_
    refine lv_icmp_ne (tgt := 16) hx hb d_MO_isBlank_9 (by decide) (fun c_2 => ?_) (fun c_2 => ?_)
    · skip
      refine lv_iconst (v := 0) hx hb d_MO_isBlank_16 (by decide) ?_
      exact f_zret C hr rfl hI ⟨by rw [if_neg c_1, if_neg c_2], rfl⟩ hX (Nat.le_refl _) (Nat.le_refl _) d_MO_isBlank_17
    · skip
      refine lv_iconst (v := 1) hx hb d_MO_isBlank_12 (by decide) ?_
      refine lv_goto (tgt := 17) hx hb d_MO_isBlank_13 (by decide) ?_
      exact f_zret C hr rfl hI ⟨by rw [if_neg c_1, if_pos c_2], rfl⟩ hX (Nat.le_refl _) (Nat.le_refl _) d_MO_isBlank_17
theorem gm_MO_isDay : gM y_MO_isDay b_MO_isDay 2 (some .boolean) 1 := ⟨w_1000, w_10, ⟨by decide, by decide⟩, by decide +kernel⟩
set_option maxHeartbeats 4000000 in
set_option maxRecDepth 100000 in
/-- MO_isDay  -/
theorem c_MO_isDay (l : Launch) (G : gG) (h : fH) (sz : Nat) (a : Int64) : cM l y_MO_isDay b_MO_isDay 2 (some .boolean) { frames := 0, cells := 0, slots := 0, locals := 0 } G [.long a] h sz (cQi G h sz (fun (r : Int32) h' => r = (if a < 0 then 0 else (if 100000 < a then 0 else 1)) ∧ h' = h)) := by
  refine f_start (by decide) (Nat.le_of_ble_eq_true rfl) ?_
  intro p e s m below meth c ls C hr hsz hI hl
  obtain ⟨hx, hb, hml, hown, hnm, hlk, hT, hG, hZ⟩ := id C
  have hK := hG.1
  have hX : fX h sz h := fX.rf
  have hl : lv_has ls 2 [(0, .long a)] := hl
  refine lv_lload_n hx hb d_MO_isDay_0 rfl (lv_at hl 0 rfl) ?_
  refine lv_lconst (v := 0) hx hb d_MO_isDay_1 (by decide) ?_
  refine f_lc_lt (tgt := 18) hx hb d_MO_isDay_2 d_MO_isDay_3 (by decide) (fun c_1 => ?_) (fun c_1 => ?_)
  · skip
    refine lv_iconst (v := 0) hx hb d_MO_isDay_18 (by decide) ?_
    exact f_zret C hr rfl hI ⟨by rw [if_pos c_1], rfl⟩ hX (Nat.le_refl _) (Nat.le_refl _) d_MO_isDay_19
  · skip
    refine lv_lload_n hx hb d_MO_isDay_6 rfl (lv_at hl 0 rfl) ?_
    refine lv_ldc2 (v := 100000) hx hb hown (hT _ w_974) d_MO_isDay_7 ?_
    refine f_lc_gt (tgt := 18) hx hb d_MO_isDay_10 d_MO_isDay_11 (by decide) (fun c_2 => ?_) (fun c_2 => ?_)
    · skip
      refine lv_iconst (v := 0) hx hb d_MO_isDay_18 (by decide) ?_
      exact f_zret C hr rfl hI ⟨by rw [if_neg c_1, if_pos c_2], rfl⟩ hX (Nat.le_refl _) (Nat.le_refl _) d_MO_isDay_19
    · skip
      refine lv_iconst (v := 1) hx hb d_MO_isDay_14 (by decide) ?_
      refine lv_goto (tgt := 19) hx hb d_MO_isDay_15 (by decide) ?_
      exact f_zret C hr rfl hI ⟨by rw [if_neg c_1, if_neg c_2], rfl⟩ hX (Nat.le_refl _) (Nat.le_refl _) d_MO_isDay_19
theorem gm_MO_isLot : gM y_MO_isLot b_MO_isLot 1 (some .boolean) 1 := ⟨w_997, w_10, ⟨by decide, by decide⟩, by decide +kernel⟩
set_option maxHeartbeats 4000000 in
set_option maxRecDepth 100000 in
/-- MO_isLot  -/
theorem c_MO_isLot (l : Launch) (G : gG) (h : fH) (sz : Nat) (a : Int32) : cM l y_MO_isLot b_MO_isLot 1 (some .boolean) { frames := 0, cells := 0, slots := 0, locals := 0 } G [.int a] h sz (cQi G h sz (fun (r : Int32) h' => r = (if a < 0 then 0 else (if 30 ≤ a then 0 else 1)) ∧ h' = h)) := by
  refine f_start (by decide) (Nat.le_of_ble_eq_true rfl) ?_
  intro p e s m below meth c ls C hr hsz hI hl
  obtain ⟨hx, hb, hml, hown, hnm, hlk, hT, hG, hZ⟩ := id C
  have hK := hG.1
  have hX : fX h sz h := fX.rf
  have hl : lv_has ls 1 [(0, .int a)] := hl
  refine lv_iload_n hx hb d_MO_isLot_0 rfl (lv_at hl 0 rfl) ?_
  refine lv_if_lt (tgt := 14) hx hb d_MO_isLot_1 (by decide) (fun c_1 => ?_) (fun c_1 => ?_)
  · skip
    refine lv_iconst (v := 0) hx hb d_MO_isLot_14 (by decide) ?_
    exact f_zret C hr rfl hI ⟨by rw [if_pos c_1], rfl⟩ hX (Nat.le_refl _) (Nat.le_refl _) d_MO_isLot_15
  · skip
    refine lv_iload_n hx hb d_MO_isLot_4 rfl (lv_at hl 0 rfl) ?_
    refine lv_bipush (v := 30) hx hb d_MO_isLot_5 (by decide) ?_
    refine lv_icmp_ge (tgt := 14) hx hb d_MO_isLot_7 (by decide) (fun c_2 => ?_) (fun c_2 => ?_)
    · skip
      refine lv_iconst (v := 0) hx hb d_MO_isLot_14 (by decide) ?_
      exact f_zret C hr rfl hI ⟨by rw [if_neg c_1, if_pos c_2], rfl⟩ hX (Nat.le_refl _) (Nat.le_refl _) d_MO_isLot_15
    · skip
      refine lv_iconst (v := 1) hx hb d_MO_isLot_10 (by decide) ?_
      refine lv_goto (tgt := 15) hx hb d_MO_isLot_11 (by decide) ?_
      exact f_zret C hr rfl hI ⟨by rw [if_neg c_1, if_neg c_2], rfl⟩ hX (Nat.le_refl _) (Nat.le_refl _) d_MO_isLot_15
theorem gm_MO_most : gM y_MO_most b_MO_most 1 (some .long) 1 := ⟨w_1004, w_10, ⟨by decide, by decide⟩, by decide +kernel⟩
set_option maxHeartbeats 4000000 in
set_option maxRecDepth 100000 in
/-- MO_most  -/
theorem c_MO_most (l : Launch) (G : gG) (h : fH) (sz : Nat) (a : Int32) : cM l y_MO_most b_MO_most 1 (some .long) { frames := 0, cells := 0, slots := 0, locals := 0 } G [.int a] h sz (cQl G h sz (fun (r : Int64) h' => r = (if a = 0 then 9 else (if a = 1 then 10000 else (if a = 3 then 100000000 else 1000000))) ∧ h' = h)) := by
  refine f_start (by decide) (Nat.le_of_ble_eq_true rfl) ?_
  intro p e s m below meth c ls C hr hsz hI hl
  obtain ⟨hx, hb, hml, hown, hnm, hlk, hT, hG, hZ⟩ := id C
  have hK := hG.1
  have hX : fX h sz h := fX.rf
  have hl : lv_has ls 1 [(0, .int a)] := hl
  refine lv_iload_n hx hb d_MO_most_0 rfl (lv_at hl 0 rfl) ?_
  refine lv_if_ne (tgt := 10) hx hb d_MO_most_1 (by decide) (fun c_1 => ?_) (fun c_1 => ?_)
  · skip
    refine lv_iload_n hx hb d_MO_most_10 rfl (lv_at hl 0 rfl) ?_
    refine lv_iconst (v := 1) hx hb d_MO_most_11 (by decide) ?_
    refine lv_icmp_ne (tgt := 21) hx hb d_MO_most_12 (by decide) (fun c_2 => ?_) (fun c_2 => ?_)
    · skip
      refine lv_iload_n hx hb d_MO_most_21 rfl (lv_at hl 0 rfl) ?_
      refine lv_iconst (v := 3) hx hb d_MO_most_22 (by decide) ?_
      refine lv_icmp_ne (tgt := 32) hx hb d_MO_most_23 (by decide) (fun c_3 => ?_) (fun c_3 => ?_)
      · skip
        refine lv_ldc2 (v := 1000000) hx hb hown (hT _ w_1008) d_MO_most_32 ?_
        exact f_lret C hr hI ⟨by rw [if_neg c_1, if_neg c_2, if_neg c_3], rfl⟩ hX (Nat.le_refl _) (Nat.le_refl _) d_MO_most_35
      · skip
        refine lv_ldc2 (v := 100000000) hx hb hown (hT _ w_1007) d_MO_most_26 ?_
        refine lv_goto (tgt := 35) hx hb d_MO_most_29 (by decide) ?_
        exact f_lret C hr hI ⟨by rw [if_neg c_1, if_neg c_2, if_pos c_3], rfl⟩ hX (Nat.le_refl _) (Nat.le_refl _) d_MO_most_35
    · skip
      refine lv_ldc2 (v := 10000) hx hb hown (hT _ w_1006) d_MO_most_15 ?_
      refine lv_goto (tgt := 35) hx hb d_MO_most_18 (by decide) ?_
      exact f_lret C hr hI ⟨by rw [if_neg c_1, if_pos c_2], rfl⟩ hX (Nat.le_refl _) (Nat.le_refl _) d_MO_most_35
  · skip
    refine lv_ldc2 (v := 9) hx hb hown (hT _ w_1005) d_MO_most_4 ?_
    refine lv_goto (tgt := 35) hx hb d_MO_most_7 (by decide) ?_
    exact f_lret C hr hI ⟨by rw [if_pos c_1], rfl⟩ hX (Nat.le_refl _) (Nat.le_refl _) d_MO_most_35
theorem gm_MO_least : gM y_MO_least b_MO_least 4 (some .long) 2 := ⟨w_1045, w_10, ⟨by decide, by decide⟩, by decide +kernel⟩
set_option maxHeartbeats 4000000 in
set_option maxRecDepth 100000 in
/-- MO_least  -/
theorem c_MO_least (l : Launch) (G : gG) (h : fH) (sz : Nat) (a : Int64) (b : Int64) : cM l y_MO_least b_MO_least 4 (some .long) { frames := 0, cells := 0, slots := 0, locals := 0 } G [.long a, .long b] h sz (cQl G h sz (fun (r : Int64) h' => r = (if b ≤ a then b else a) ∧ h' = h)) := by
  refine f_start (by decide) (Nat.le_of_ble_eq_true rfl) ?_
  intro p e s m below meth c ls C hr hsz hI hl
  obtain ⟨hx, hb, hml, hown, hnm, hlk, hT, hG, hZ⟩ := id C
  have hK := hG.1
  have hX : fX h sz h := fX.rf
  have hl : lv_has ls 4 [(0, .long a), (2, .long b)] := hl
  refine lv_lload_n hx hb d_MO_least_0 rfl (lv_at hl 0 rfl) ?_
  refine lv_lload_n hx hb d_MO_least_1 rfl (lv_at hl 1 rfl) ?_
  refine f_lc_ge (tgt := 10) hx hb d_MO_least_2 d_MO_least_3 (by decide) (fun c_1 => ?_) (fun c_1 => ?_)
  · skip
    refine lv_lload_n hx hb d_MO_least_10 rfl (lv_at hl 1 rfl) ?_
    exact f_lret C hr hI ⟨by rw [if_pos c_1], rfl⟩ hX (Nat.le_refl _) (Nat.le_refl _) d_MO_least_11
  · skip
    refine lv_lload_n hx hb d_MO_least_6 rfl (lv_at hl 0 rfl) ?_
    refine lv_goto (tgt := 11) hx hb d_MO_least_7 (by decide) ?_
    exact f_lret C hr hI ⟨by rw [if_neg c_1], rfl⟩ hX (Nat.le_refl _) (Nat.le_refl _) d_MO_least_11
theorem gm_MO_isMonth : gM y_MO_isMonth b_MO_isMonth 1 (some .boolean) 1 := ⟨w_1068, w_10, ⟨by decide, by decide⟩, by decide +kernel⟩
set_option maxHeartbeats 4000000 in
set_option maxRecDepth 100000 in
/-- MO_isMonth  -/
theorem c_MO_isMonth (l : Launch) (G : gG) (h : fH) (sz : Nat) (a : Int32) : cM l y_MO_isMonth b_MO_isMonth 1 (some .boolean) { frames := 0, cells := 0, slots := 0, locals := 0 } G [.int a] h sz (cQi G h sz (fun (r : Int32) h' => r = (if a < 0 then 0 else (if 3001 ≤ a then 0 else 1)) ∧ h' = h)) := by
  refine f_start (by decide) (Nat.le_of_ble_eq_true rfl) ?_
  intro p e s m below meth c ls C hr hsz hI hl
  obtain ⟨hx, hb, hml, hown, hnm, hlk, hT, hG, hZ⟩ := id C
  have hK := hG.1
  have hX : fX h sz h := fX.rf
  have hl : lv_has ls 1 [(0, .int a)] := hl
  refine lv_iload_n hx hb d_MO_isMonth_0 rfl (lv_at hl 0 rfl) ?_
  refine lv_if_lt (tgt := 15) hx hb d_MO_isMonth_1 (by decide) (fun c_1 => ?_) (fun c_1 => ?_)
  · skip
    refine lv_iconst (v := 0) hx hb d_MO_isMonth_15 (by decide) ?_
    exact f_zret C hr rfl hI ⟨by rw [if_pos c_1], rfl⟩ hX (Nat.le_refl _) (Nat.le_refl _) d_MO_isMonth_16
  · skip
    refine lv_iload_n hx hb d_MO_isMonth_4 rfl (lv_at hl 0 rfl) ?_
    refine lv_sipush (v := 3001) hx hb d_MO_isMonth_5 (by decide) ?_
    refine lv_icmp_ge (tgt := 15) hx hb d_MO_isMonth_8 (by decide) (fun c_2 => ?_) (fun c_2 => ?_)
    · skip
      refine lv_iconst (v := 0) hx hb d_MO_isMonth_15 (by decide) ?_
      exact f_zret C hr rfl hI ⟨by rw [if_neg c_1, if_pos c_2], rfl⟩ hX (Nat.le_refl _) (Nat.le_refl _) d_MO_isMonth_16
    · skip
      refine lv_iconst (v := 1) hx hb d_MO_isMonth_11 (by decide) ?_
      refine lv_goto (tgt := 16) hx hb d_MO_isMonth_12 (by decide) ?_
      exact f_zret C hr rfl hI ⟨by rw [if_neg c_1, if_neg c_2], rfl⟩ hX (Nat.le_refl _) (Nat.le_refl _) d_MO_isMonth_16
theorem gm_MO_lastOf : gM y_MO_lastOf b_MO_lastOf 1 (some .long) 1 := ⟨w_1072, w_10, ⟨by decide, by decide⟩, by decide +kernel⟩
set_option maxHeartbeats 4000000 in
set_option maxRecDepth 100000 in
/-- MO_lastOf  -/
theorem c_MO_lastOf (l : Launch) (G : gG) (h : fH) (sz : Nat) (a : Int32) : cM l y_MO_lastOf b_MO_lastOf 1 (some .long) { frames := 0, cells := 0, slots := 0, locals := 0 } G [.int a] h sz (cQl G h sz (fun (r : Int64) h' => r = (30 * a.toInt64) + 29 ∧ h' = h)) := by
  refine f_start (by decide) (Nat.le_of_ble_eq_true rfl) ?_
  intro p e s m below meth c ls C hr hsz hI hl
  obtain ⟨hx, hb, hml, hown, hnm, hlk, hT, hG, hZ⟩ := id C
  have hK := hG.1
  have hX : fX h sz h := fX.rf
  have hl : lv_has ls 1 [(0, .int a)] := hl
  refine lv_ldc2 (v := 30) hx hb hown (hT _ w_1073) d_MO_lastOf_0 ?_
  refine lv_iload_n hx hb d_MO_lastOf_3 rfl (lv_at hl 0 rfl) ?_
  refine lv_i2l hx hb d_MO_lastOf_4 rfl ?_
  refine lv_lmul hx hb d_MO_lastOf_5 ?_
  refine lv_ldc2 (v := 29) hx hb hown (hT _ w_1074) d_MO_lastOf_6 ?_
  refine lv_ladd hx hb d_MO_lastOf_9 ?_
  exact f_lret C hr hI ⟨rfl, rfl⟩ hX (Nat.le_refl _) (Nat.le_refl _) d_MO_lastOf_10
theorem gm_MO_part : gM y_MO_part b_MO_part 2 (some .int) 2 := ⟨w_963, w_10, ⟨by decide, by decide⟩, by decide +kernel⟩
set_option maxHeartbeats 4000000 in
set_option maxRecDepth 100000 in
/-- MO_part  -/
theorem c_MO_part (l : Launch) (G : gG) (h : fH) (sz : Nat) (a : Int32) (b : Int32) : cM l y_MO_part b_MO_part 2 (some .int) { frames := 0, cells := 0, slots := 0, locals := 0 } G [.int a, .int b] h sz (cQi G h sz (fun (r : Int32) h' => r = (if a.toInt = 0 then (if b = 0 then 9 else (if b = 1 then (-106) else (if b = 2 then 10000 else (if b = 3 then (-107) else (if b = 4 then 10000 else (if b = 5 then (-108) else (if b = 6 then 1000000 else (-112)))))))) else (if a.toInt = 1 then (if b = 0 then 9 else (if b = 1 then (-109) else (if b = 2 then 100000000 else (if b = 3 then (-110) else (if b = 4 then 100 else (-112)))))) else (if a.toInt = 2 then (if b = 0 then 9 else (if b = 1 then (-111) else (if b = 2 then 100 else (-112)))) else (if a.toInt = 3 then (if b = 0 then 9 else (if b = 1 then (-110) else (if b = 2 then 100 else (-112)))) else (if a.toInt = 4 then (if b = 0 then 1000 else (-112)) else (if b = 0 then 100 else (-112))))))) ∧ h' = h)) := by
  refine f_start (by decide) (Nat.le_of_ble_eq_true rfl) ?_
  intro p e s m below meth c ls C hr hsz hI hl
  obtain ⟨hx, hb, hml, hown, hnm, hlk, hT, hG, hZ⟩ := id C
  have hK := hG.1
  have hX : fX h sz h := fX.rf
  have hl : lv_has ls 2 [(0, .int a), (1, .int b)] := hl
  refine lv_iload_n hx hb d_MO_part_0 rfl (lv_at hl 0 rfl) ?_
  rcases (show a.toInt = 0 ∨ a.toInt = 1 ∨ a.toInt = 2 ∨ a.toInt = 3 ∨ a.toInt = 4 ∨ (a.toInt < 0 ∨ 4 < a.toInt) by omega) with e_1 | e_1 | e_1 | e_1 | e_1 | e_1
  · refine lv_tableIn (off := 35) (tgt := 36) hx hb d_MO_part_1 (by rw [e_1]; decide) (by rw [e_1]; decide) (by rw [e_1]; decide) (by decide) ?_
    refine lv_iload_n hx hb d_MO_part_36 rfl (lv_at hl 1 rfl) ?_
    refine lv_if_ne (tgt := 45) hx hb d_MO_part_37 (by decide) (fun c_2 => ?_) (fun c_2 => ?_)
    · skip
      refine lv_iload_n hx hb d_MO_part_45 rfl (lv_at hl 1 rfl) ?_
      refine lv_iconst (v := 1) hx hb d_MO_part_46 (by decide) ?_
      refine lv_icmp_ne (tgt := 55) hx hb d_MO_part_47 (by decide) (fun c_3 => ?_) (fun c_3 => ?_)
      · skip
        refine lv_iload_n hx hb d_MO_part_55 rfl (lv_at hl 1 rfl) ?_
        refine lv_iconst (v := 2) hx hb d_MO_part_56 (by decide) ?_
        refine lv_icmp_ne (tgt := 66) hx hb d_MO_part_57 (by decide) (fun c_4 => ?_) (fun c_4 => ?_)
        · skip
          refine lv_iload_n hx hb d_MO_part_66 rfl (lv_at hl 1 rfl) ?_
          refine lv_iconst (v := 3) hx hb d_MO_part_67 (by decide) ?_
          refine lv_icmp_ne (tgt := 76) hx hb d_MO_part_68 (by decide) (fun c_5 => ?_) (fun c_5 => ?_)
          · skip
            refine lv_iload_n hx hb d_MO_part_76 rfl (lv_at hl 1 rfl) ?_
            refine lv_iconst (v := 4) hx hb d_MO_part_77 (by decide) ?_
            refine lv_icmp_ne (tgt := 87) hx hb d_MO_part_78 (by decide) (fun c_6 => ?_) (fun c_6 => ?_)
            · skip
              refine lv_iload_n hx hb d_MO_part_87 rfl (lv_at hl 1 rfl) ?_
              refine lv_iconst (v := 5) hx hb d_MO_part_88 (by decide) ?_
              refine lv_icmp_ne (tgt := 97) hx hb d_MO_part_89 (by decide) (fun c_7 => ?_) (fun c_7 => ?_)
              · skip
                refine lv_iload_n hx hb d_MO_part_97 rfl (lv_at hl 1 rfl) ?_
                refine lv_bipush (v := 6) hx hb d_MO_part_98 (by decide) ?_
                refine lv_icmp_ne (tgt := 108) hx hb d_MO_part_100 (by decide) (fun c_8 => ?_) (fun c_8 => ?_)
                · skip
                  refine lv_bipush (v := (-112)) hx hb d_MO_part_108 (by decide) ?_
                  exact f_iret C hr hI ⟨by rw [if_pos e_1, if_neg c_2, if_neg c_3, if_neg c_4, if_neg c_5, if_neg c_6, if_neg c_7, if_neg c_8], rfl⟩ hX (Nat.le_refl _) (Nat.le_refl _) d_MO_part_110
                · skip
                  refine lv_ldc (v := 1000000) hx hb hown (hT _ w_964) d_MO_part_103 ?_
                  refine lv_goto (tgt := 110) hx hb d_MO_part_105 (by decide) ?_
                  exact f_iret C hr hI ⟨by rw [if_pos e_1, if_neg c_2, if_neg c_3, if_neg c_4, if_neg c_5, if_neg c_6, if_neg c_7, if_pos c_8], rfl⟩ hX (Nat.le_refl _) (Nat.le_refl _) d_MO_part_110
              · skip
                refine lv_bipush (v := (-108)) hx hb d_MO_part_92 (by decide) ?_
                refine lv_goto (tgt := 110) hx hb d_MO_part_94 (by decide) ?_
                exact f_iret C hr hI ⟨by rw [if_pos e_1, if_neg c_2, if_neg c_3, if_neg c_4, if_neg c_5, if_neg c_6, if_pos c_7], rfl⟩ hX (Nat.le_refl _) (Nat.le_refl _) d_MO_part_110
            · skip
              refine lv_sipush (v := 10000) hx hb d_MO_part_81 (by decide) ?_
              refine lv_goto (tgt := 110) hx hb d_MO_part_84 (by decide) ?_
              exact f_iret C hr hI ⟨by rw [if_pos e_1, if_neg c_2, if_neg c_3, if_neg c_4, if_neg c_5, if_pos c_6], rfl⟩ hX (Nat.le_refl _) (Nat.le_refl _) d_MO_part_110
          · skip
            refine lv_bipush (v := (-107)) hx hb d_MO_part_71 (by decide) ?_
            refine lv_goto (tgt := 110) hx hb d_MO_part_73 (by decide) ?_
            exact f_iret C hr hI ⟨by rw [if_pos e_1, if_neg c_2, if_neg c_3, if_neg c_4, if_pos c_5], rfl⟩ hX (Nat.le_refl _) (Nat.le_refl _) d_MO_part_110
        · skip
          refine lv_sipush (v := 10000) hx hb d_MO_part_60 (by decide) ?_
          refine lv_goto (tgt := 110) hx hb d_MO_part_63 (by decide) ?_
          exact f_iret C hr hI ⟨by rw [if_pos e_1, if_neg c_2, if_neg c_3, if_pos c_4], rfl⟩ hX (Nat.le_refl _) (Nat.le_refl _) d_MO_part_110
      · skip
        refine lv_bipush (v := (-106)) hx hb d_MO_part_50 (by decide) ?_
        refine lv_goto (tgt := 110) hx hb d_MO_part_52 (by decide) ?_
        exact f_iret C hr hI ⟨by rw [if_pos e_1, if_neg c_2, if_pos c_3], rfl⟩ hX (Nat.le_refl _) (Nat.le_refl _) d_MO_part_110
    · skip
      refine lv_bipush (v := 9) hx hb d_MO_part_40 (by decide) ?_
      refine lv_goto (tgt := 110) hx hb d_MO_part_42 (by decide) ?_
      exact f_iret C hr hI ⟨by rw [if_pos e_1, if_pos c_2], rfl⟩ hX (Nat.le_refl _) (Nat.le_refl _) d_MO_part_110
  · refine lv_tableIn (off := 110) (tgt := 111) hx hb d_MO_part_1 (by rw [e_1]; decide) (by rw [e_1]; decide) (by rw [e_1]; decide) (by decide) ?_
    refine lv_iload_n hx hb d_MO_part_111 rfl (lv_at hl 1 rfl) ?_
    refine lv_if_ne (tgt := 120) hx hb d_MO_part_112 (by decide) (fun c_9 => ?_) (fun c_9 => ?_)
    · skip
      refine lv_iload_n hx hb d_MO_part_120 rfl (lv_at hl 1 rfl) ?_
      refine lv_iconst (v := 1) hx hb d_MO_part_121 (by decide) ?_
      refine lv_icmp_ne (tgt := 130) hx hb d_MO_part_122 (by decide) (fun c_10 => ?_) (fun c_10 => ?_)
      · skip
        refine lv_iload_n hx hb d_MO_part_130 rfl (lv_at hl 1 rfl) ?_
        refine lv_iconst (v := 2) hx hb d_MO_part_131 (by decide) ?_
        refine lv_icmp_ne (tgt := 140) hx hb d_MO_part_132 (by decide) (fun c_11 => ?_) (fun c_11 => ?_)
        · skip
          refine lv_iload_n hx hb d_MO_part_140 rfl (lv_at hl 1 rfl) ?_
          refine lv_iconst (v := 3) hx hb d_MO_part_141 (by decide) ?_
          refine lv_icmp_ne (tgt := 150) hx hb d_MO_part_142 (by decide) (fun c_12 => ?_) (fun c_12 => ?_)
          · skip
            refine lv_iload_n hx hb d_MO_part_150 rfl (lv_at hl 1 rfl) ?_
            refine lv_iconst (v := 4) hx hb d_MO_part_151 (by decide) ?_
            refine lv_icmp_ne (tgt := 160) hx hb d_MO_part_152 (by decide) (fun c_13 => ?_) (fun c_13 => ?_)
            · skip
              refine lv_bipush (v := (-112)) hx hb d_MO_part_160 (by decide) ?_
              exact f_iret C hr hI ⟨by rw [if_neg (show ¬ a.toInt = 0 by omega), if_pos e_1, if_neg c_9, if_neg c_10, if_neg c_11, if_neg c_12, if_neg c_13], rfl⟩ hX (Nat.le_refl _) (Nat.le_refl _) d_MO_part_162
            · skip
              refine lv_bipush (v := 100) hx hb d_MO_part_155 (by decide) ?_
              refine lv_goto (tgt := 162) hx hb d_MO_part_157 (by decide) ?_
              exact f_iret C hr hI ⟨by rw [if_neg (show ¬ a.toInt = 0 by omega), if_pos e_1, if_neg c_9, if_neg c_10, if_neg c_11, if_neg c_12, if_pos c_13], rfl⟩ hX (Nat.le_refl _) (Nat.le_refl _) d_MO_part_162
          · skip
            refine lv_bipush (v := (-110)) hx hb d_MO_part_145 (by decide) ?_
            refine lv_goto (tgt := 162) hx hb d_MO_part_147 (by decide) ?_
            exact f_iret C hr hI ⟨by rw [if_neg (show ¬ a.toInt = 0 by omega), if_pos e_1, if_neg c_9, if_neg c_10, if_neg c_11, if_pos c_12], rfl⟩ hX (Nat.le_refl _) (Nat.le_refl _) d_MO_part_162
        · skip
          refine lv_ldc (v := 100000000) hx hb hown (hT _ w_965) d_MO_part_135 ?_
          refine lv_goto (tgt := 162) hx hb d_MO_part_137 (by decide) ?_
          exact f_iret C hr hI ⟨by rw [if_neg (show ¬ a.toInt = 0 by omega), if_pos e_1, if_neg c_9, if_neg c_10, if_pos c_11], rfl⟩ hX (Nat.le_refl _) (Nat.le_refl _) d_MO_part_162
      · skip
        refine lv_bipush (v := (-109)) hx hb d_MO_part_125 (by decide) ?_
        refine lv_goto (tgt := 162) hx hb d_MO_part_127 (by decide) ?_
        exact f_iret C hr hI ⟨by rw [if_neg (show ¬ a.toInt = 0 by omega), if_pos e_1, if_neg c_9, if_pos c_10], rfl⟩ hX (Nat.le_refl _) (Nat.le_refl _) d_MO_part_162
    · skip
      refine lv_bipush (v := 9) hx hb d_MO_part_115 (by decide) ?_
      refine lv_goto (tgt := 162) hx hb d_MO_part_117 (by decide) ?_
      exact f_iret C hr hI ⟨by rw [if_neg (show ¬ a.toInt = 0 by omega), if_pos e_1, if_pos c_9], rfl⟩ hX (Nat.le_refl _) (Nat.le_refl _) d_MO_part_162
  · refine lv_tableIn (off := 162) (tgt := 163) hx hb d_MO_part_1 (by rw [e_1]; decide) (by rw [e_1]; decide) (by rw [e_1]; decide) (by decide) ?_
    refine lv_iload_n hx hb d_MO_part_163 rfl (lv_at hl 1 rfl) ?_
    refine lv_if_ne (tgt := 172) hx hb d_MO_part_164 (by decide) (fun c_14 => ?_) (fun c_14 => ?_)
    · skip
      refine lv_iload_n hx hb d_MO_part_172 rfl (lv_at hl 1 rfl) ?_
      refine lv_iconst (v := 1) hx hb d_MO_part_173 (by decide) ?_
      refine lv_icmp_ne (tgt := 182) hx hb d_MO_part_174 (by decide) (fun c_15 => ?_) (fun c_15 => ?_)
      · skip
        refine lv_iload_n hx hb d_MO_part_182 rfl (lv_at hl 1 rfl) ?_
        refine lv_iconst (v := 2) hx hb d_MO_part_183 (by decide) ?_
        refine lv_icmp_ne (tgt := 192) hx hb d_MO_part_184 (by decide) (fun c_16 => ?_) (fun c_16 => ?_)
        · skip
          refine lv_bipush (v := (-112)) hx hb d_MO_part_192 (by decide) ?_
          exact f_iret C hr hI ⟨by rw [if_neg (show ¬ a.toInt = 0 by omega), if_neg (show ¬ a.toInt = 1 by omega), if_pos e_1, if_neg c_14, if_neg c_15, if_neg c_16], rfl⟩ hX (Nat.le_refl _) (Nat.le_refl _) d_MO_part_194
        · skip
          refine lv_bipush (v := 100) hx hb d_MO_part_187 (by decide) ?_
          refine lv_goto (tgt := 194) hx hb d_MO_part_189 (by decide) ?_
          exact f_iret C hr hI ⟨by rw [if_neg (show ¬ a.toInt = 0 by omega), if_neg (show ¬ a.toInt = 1 by omega), if_pos e_1, if_neg c_14, if_neg c_15, if_pos c_16], rfl⟩ hX (Nat.le_refl _) (Nat.le_refl _) d_MO_part_194
      · skip
        refine lv_bipush (v := (-111)) hx hb d_MO_part_177 (by decide) ?_
        refine lv_goto (tgt := 194) hx hb d_MO_part_179 (by decide) ?_
        exact f_iret C hr hI ⟨by rw [if_neg (show ¬ a.toInt = 0 by omega), if_neg (show ¬ a.toInt = 1 by omega), if_pos e_1, if_neg c_14, if_pos c_15], rfl⟩ hX (Nat.le_refl _) (Nat.le_refl _) d_MO_part_194
    · skip
      refine lv_bipush (v := 9) hx hb d_MO_part_167 (by decide) ?_
      refine lv_goto (tgt := 194) hx hb d_MO_part_169 (by decide) ?_
      exact f_iret C hr hI ⟨by rw [if_neg (show ¬ a.toInt = 0 by omega), if_neg (show ¬ a.toInt = 1 by omega), if_pos e_1, if_pos c_14], rfl⟩ hX (Nat.le_refl _) (Nat.le_refl _) d_MO_part_194
  · refine lv_tableIn (off := 194) (tgt := 195) hx hb d_MO_part_1 (by rw [e_1]; decide) (by rw [e_1]; decide) (by rw [e_1]; decide) (by decide) ?_
    refine lv_iload_n hx hb d_MO_part_195 rfl (lv_at hl 1 rfl) ?_
    refine lv_if_ne (tgt := 204) hx hb d_MO_part_196 (by decide) (fun c_17 => ?_) (fun c_17 => ?_)
    · skip
      refine lv_iload_n hx hb d_MO_part_204 rfl (lv_at hl 1 rfl) ?_
      refine lv_iconst (v := 1) hx hb d_MO_part_205 (by decide) ?_
      refine lv_icmp_ne (tgt := 214) hx hb d_MO_part_206 (by decide) (fun c_18 => ?_) (fun c_18 => ?_)
      · skip
        refine lv_iload_n hx hb d_MO_part_214 rfl (lv_at hl 1 rfl) ?_
        refine lv_iconst (v := 2) hx hb d_MO_part_215 (by decide) ?_
        refine lv_icmp_ne (tgt := 224) hx hb d_MO_part_216 (by decide) (fun c_19 => ?_) (fun c_19 => ?_)
        · skip
          refine lv_bipush (v := (-112)) hx hb d_MO_part_224 (by decide) ?_
          exact f_iret C hr hI ⟨by rw [if_neg (show ¬ a.toInt = 0 by omega), if_neg (show ¬ a.toInt = 1 by omega), if_neg (show ¬ a.toInt = 2 by omega), if_pos e_1, if_neg c_17, if_neg c_18, if_neg c_19], rfl⟩ hX (Nat.le_refl _) (Nat.le_refl _) d_MO_part_226
        · skip
          refine lv_bipush (v := 100) hx hb d_MO_part_219 (by decide) ?_
          refine lv_goto (tgt := 226) hx hb d_MO_part_221 (by decide) ?_
          exact f_iret C hr hI ⟨by rw [if_neg (show ¬ a.toInt = 0 by omega), if_neg (show ¬ a.toInt = 1 by omega), if_neg (show ¬ a.toInt = 2 by omega), if_pos e_1, if_neg c_17, if_neg c_18, if_pos c_19], rfl⟩ hX (Nat.le_refl _) (Nat.le_refl _) d_MO_part_226
      · skip
        refine lv_bipush (v := (-110)) hx hb d_MO_part_209 (by decide) ?_
        refine lv_goto (tgt := 226) hx hb d_MO_part_211 (by decide) ?_
        exact f_iret C hr hI ⟨by rw [if_neg (show ¬ a.toInt = 0 by omega), if_neg (show ¬ a.toInt = 1 by omega), if_neg (show ¬ a.toInt = 2 by omega), if_pos e_1, if_neg c_17, if_pos c_18], rfl⟩ hX (Nat.le_refl _) (Nat.le_refl _) d_MO_part_226
    · skip
      refine lv_bipush (v := 9) hx hb d_MO_part_199 (by decide) ?_
      refine lv_goto (tgt := 226) hx hb d_MO_part_201 (by decide) ?_
      exact f_iret C hr hI ⟨by rw [if_neg (show ¬ a.toInt = 0 by omega), if_neg (show ¬ a.toInt = 1 by omega), if_neg (show ¬ a.toInt = 2 by omega), if_pos e_1, if_pos c_17], rfl⟩ hX (Nat.le_refl _) (Nat.le_refl _) d_MO_part_226
  · refine lv_tableIn (off := 226) (tgt := 227) hx hb d_MO_part_1 (by rw [e_1]; decide) (by rw [e_1]; decide) (by rw [e_1]; decide) (by decide) ?_
    refine lv_iload_n hx hb d_MO_part_227 rfl (lv_at hl 1 rfl) ?_
    refine lv_if_ne (tgt := 237) hx hb d_MO_part_228 (by decide) (fun c_20 => ?_) (fun c_20 => ?_)
    · skip
      refine lv_bipush (v := (-112)) hx hb d_MO_part_237 (by decide) ?_
      exact f_iret C hr hI ⟨by rw [if_neg (show ¬ a.toInt = 0 by omega), if_neg (show ¬ a.toInt = 1 by omega), if_neg (show ¬ a.toInt = 2 by omega), if_neg (show ¬ a.toInt = 3 by omega), if_pos e_1, if_neg c_20], rfl⟩ hX (Nat.le_refl _) (Nat.le_refl _) d_MO_part_239
    · skip
      refine lv_sipush (v := 1000) hx hb d_MO_part_231 (by decide) ?_
      refine lv_goto (tgt := 239) hx hb d_MO_part_234 (by decide) ?_
      exact f_iret C hr hI ⟨by rw [if_neg (show ¬ a.toInt = 0 by omega), if_neg (show ¬ a.toInt = 1 by omega), if_neg (show ¬ a.toInt = 2 by omega), if_neg (show ¬ a.toInt = 3 by omega), if_pos e_1, if_pos c_20], rfl⟩ hX (Nat.le_refl _) (Nat.le_refl _) d_MO_part_239
  · refine lv_tableOut (tgt := 240) hx hb d_MO_part_1 e_1 (by decide) ?_
    refine lv_iload_n hx hb d_MO_part_240 rfl (lv_at hl 1 rfl) ?_
    refine lv_if_ne (tgt := 249) hx hb d_MO_part_241 (by decide) (fun c_21 => ?_) (fun c_21 => ?_)
    · skip
      refine lv_bipush (v := (-112)) hx hb d_MO_part_249 (by decide) ?_
      exact f_iret C hr hI ⟨by rw [if_neg (show ¬ a.toInt = 0 by omega), if_neg (show ¬ a.toInt = 1 by omega), if_neg (show ¬ a.toInt = 2 by omega), if_neg (show ¬ a.toInt = 3 by omega), if_neg (show ¬ a.toInt = 4 by omega), if_neg c_21], rfl⟩ hX (Nat.le_refl _) (Nat.le_refl _) d_MO_part_251
    · skip
      refine lv_bipush (v := 100) hx hb d_MO_part_244 (by decide) ?_
      refine lv_goto (tgt := 251) hx hb d_MO_part_246 (by decide) ?_
      exact f_iret C hr hI ⟨by rw [if_neg (show ¬ a.toInt = 0 by omega), if_neg (show ¬ a.toInt = 1 by omega), if_neg (show ¬ a.toInt = 2 by omega), if_neg (show ¬ a.toInt = 3 by omega), if_neg (show ¬ a.toInt = 4 by omega), if_pos c_21], rfl⟩ hX (Nat.le_refl _) (Nat.le_refl _) d_MO_part_251
