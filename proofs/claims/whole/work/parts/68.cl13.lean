theorem gm_DR_commonDivisor : gM y_DR_commonDivisor b_DR_commonDivisor 11 (some .long) 2 := ⟨w_685, w_1, ⟨by decide, by decide⟩, by decide +kernel⟩
set_option maxHeartbeats 4000000 in
set_option maxRecDepth 100000 in
/-- DR_commonDivisor  -/
theorem c_DR_commonDivisor (l : Launch) (G : gG) (h : fH) (sz : Nat) (a b : Nat) (ba : a < 2 ^ 63) (bb : b < 2 ^ 50) : cM l y_DR_commonDivisor b_DR_commonDivisor 11 (some .long) { frames := 0, cells := 0, slots := 0, locals := 0 } G [.long (lN a), .long (lN b)] h sz (cQl G h sz (fun z h' => z = lN (Nat.gcd a b) ∧ h' = h)) := by
  refine f_start (by decide) (Nat.le_of_ble_eq_true rfl) ?_
  intro p e s m below meth c ls C hr hsz hI hl
  obtain ⟨hx, hb, hml, hown, hnm, hlk, hT, hG, hZ⟩ := id C
  have hK := hG.1
  have hX : fX h sz h := fX.rf
  have hl : lv_has ls 11 [(0, .long (lN a)), (2, .long (lN b))] := hl
  have J9 : ∀ (k i : Nat), i + k = 100 → ∀ u v : Nat, u < 2 ^ 63 → v < 2 ^ 63 → eu k u v = (Nat.gcd a b, 0) → ∀ ls : Array Slot, lv_has ls 11 [(4, .long (lN u)), (6, .long (lN v)), (8, .int (nI i))] → W p l e { frames := 0, cells := 0, slots := 0, locals := 0 } s m ([.long (lN a), .long (lN b)] : List Value).toArray below meth c s.heap [] 0 0 (MQ below (cQl G h sz (fun z h' => z = lN (Nat.gcd a b) ∧ h' = h)) ([.long (lN a), .long (lN b)] : List Value).toArray s 0 0 (fA h sz)) (F0 m 9 ls []) := by
    intro k
    induction k with
    | zero =>
      intro i hi u v bu bv he ls hl
      have hu : u = Nat.gcd a b := congrArg Prod.fst he
      refine lv_iload hx hb d_DR_commonDivisor_9 (lv_at hl 2 rfl) ?_
      refine lv_bipush (v := 100) hx hb d_DR_commonDivisor_11 (by decide) ?_
      refine lv_icmp_ge (tgt := 44) hx hb d_DR_commonDivisor_13 (by decide) (fun c_1 => ?_) (fun c_1 => absurd ((n_le (a := 100) (b := i) (by omega) (by omega)).mpr (by omega)) c_1)
      refine lv_lload hx hb d_DR_commonDivisor_44 (lv_at hl 0 rfl) ?_
      exact f_lret C hr hI ⟨by rw [← hu], rfl⟩ hX (Nat.le_refl _) (Nat.le_refl _) d_DR_commonDivisor_46
    | succ k ih =>
      intro i hi u v bu bv he ls hl
      have ih : ∀ i : Nat, i + k = 100 → ∀ u v : Nat, u < 2 ^ 63 → v < 2 ^ 63 → eu k u v = (Nat.gcd a b, 0) → ∀ ls : Array Slot, lv_has ls 11 [(4, .long (lN u)), (6, .long (lN v)), (8, .int (nI i))] → W p l e { frames := 0, cells := 0, slots := 0, locals := 0 } s m ([.long (lN a), .long (lN b)] : List Value).toArray below meth c s.heap [] 0 0 (MQ below (cQl G h sz (fun z h' => z = lN (Nat.gcd a b) ∧ h' = h)) ([.long (lN a), .long (lN b)] : List Value).toArray s 0 0 (fA h sz)) (F0 m 9 ls []) := ih
      by_cases hv0 : v = 0
      · subst hv0
        rw [eu_0] at he
        have hu : u = Nat.gcd a b := congrArg Prod.fst he
        refine lv_iload hx hb d_DR_commonDivisor_9 (lv_at hl 2 rfl) ?_
        refine lv_bipush (v := 100) hx hb d_DR_commonDivisor_11 (by decide) ?_
        refine lv_icmp_ge (tgt := 44) hx hb d_DR_commonDivisor_13 (by decide) (fun c_2 => absurd c_2 (fun q => absurd ((n_le (a := 100) (b := i) (by omega) (by omega)).mp q) (by omega))) (fun c_2 => ?_)
        refine lv_lload hx hb d_DR_commonDivisor_16 (lv_at hl 1 rfl) ?_
        refine lv_lconst (v := 0) hx hb d_DR_commonDivisor_18 (by decide) ?_
        refine f_lc_eq (tgt := 44) hx hb d_DR_commonDivisor_19 d_DR_commonDivisor_20 (by decide) (fun c_3 => ?_) (fun c_3 => absurd rfl c_3)
        refine lv_lload hx hb d_DR_commonDivisor_44 (lv_at hl 0 rfl) ?_
        exact f_lret C hr hI ⟨by rw [← hu], rfl⟩ hX (Nat.le_refl _) (Nat.le_refl _) d_DR_commonDivisor_46
      · rw [eu_s hv0] at he
        have hlt : u % v < v := Nat.mod_lt _ (by omega)
        refine lv_iload hx hb d_DR_commonDivisor_9 (lv_at hl 2 rfl) ?_
        refine lv_bipush (v := 100) hx hb d_DR_commonDivisor_11 (by decide) ?_
        refine lv_icmp_ge (tgt := 44) hx hb d_DR_commonDivisor_13 (by decide) (fun c_4 => absurd c_4 (fun q => absurd ((n_le (a := 100) (b := i) (by omega) (by omega)).mp q) (by omega))) (fun c_4 => ?_)
        refine lv_lload hx hb d_DR_commonDivisor_16 (lv_at hl 1 rfl) ?_
        refine lv_lconst (v := 0) hx hb d_DR_commonDivisor_18 (by decide) ?_
        refine f_lc_eq (tgt := 44) hx hb d_DR_commonDivisor_19 d_DR_commonDivisor_20 (by decide) (fun c_5 => absurd c_5 (fun q => hv0 ((pk_lEQ (a := v) (b := 0) (by omega) (by decide)).mp q))) (fun c_5 => ?_)
        refine lv_lload hx hb d_DR_commonDivisor_23 (lv_at hl 0 rfl) ?_
        refine lv_lload hx hb d_DR_commonDivisor_25 (lv_at hl 1 rfl) ?_
        refine lv_lrem hx hb d_DR_commonDivisor_27 (l_ne0 (a := v) (by omega) (by omega)) ?_
        refine f_asl (pk_lRem (a := u) (b := v) (by omega) (by omega) (by omega)) ?_
        refine lv_lstore (lv' := [(9, .long (lN (u % v))), (4, .long (lN u)), (6, .long (lN v)), (8, .int (nI i))]) hx hb d_DR_commonDivisor_28 hl (by decide) rfl (fun ls hl => ?_)
        refine lv_lload hx hb d_DR_commonDivisor_30 (lv_at hl 2 rfl) ?_
        refine lv_lstore (lv' := [(4, .long (lN v)), (9, .long (lN (u % v))), (6, .long (lN v)), (8, .int (nI i))]) hx hb d_DR_commonDivisor_32 hl (by decide) rfl (fun ls hl => ?_)
        refine lv_lload hx hb d_DR_commonDivisor_34 (lv_at hl 1 rfl) ?_
        refine lv_lstore (lv' := [(6, .long (lN (u % v))), (4, .long (lN v)), (9, .long (lN (u % v))), (8, .int (nI i))]) hx hb d_DR_commonDivisor_36 hl (by decide) rfl (fun ls hl => ?_)
        refine lv_iinc (v := nI (i + 1)) (lv' := [(8, .int (nI (i + 1))), (6, .long (lN (u % v))), (4, .long (lN v)), (9, .long (lN (u % v)))]) hx hb d_DR_commonDivisor_38 hl (k := 3) rfl (f_inc1 _) (by decide) rfl (fun ls hl => ?_)
        refine lv_goto (tgt := 9) hx hb d_DR_commonDivisor_41 (by decide) ?_
        refine ih (i + 1) (by omega) v (u % v) bv (by omega) he ls ?_
        exact lv_sub hl [2, 1, 0] rfl
  refine lv_lload_n hx hb d_DR_commonDivisor_0 rfl (lv_at hl 0 rfl) ?_
  refine lv_lstore (lv' := [(4, .long (lN a)), (0, .long (lN a)), (2, .long (lN b))]) hx hb d_DR_commonDivisor_1 hl (by decide) rfl (fun ls hl => ?_)
  refine lv_lload_n hx hb d_DR_commonDivisor_3 rfl (lv_at hl 2 rfl) ?_
  refine lv_lstore (lv' := [(6, .long (lN b)), (4, .long (lN a)), (0, .long (lN a)), (2, .long (lN b))]) hx hb d_DR_commonDivisor_4 hl (by decide) rfl (fun ls hl => ?_)
  refine lv_iconst (v := 0) hx hb d_DR_commonDivisor_6 (by decide) ?_
  refine lv_istore (lv' := [(8, .int 0), (6, .long (lN b)), (4, .long (lN a)), (0, .long (lN a)), (2, .long (lN b))]) hx hb d_DR_commonDivisor_7 hl (by decide) rfl (fun ls hl => ?_)
  refine J9 100 0 (by omega) a b ba (by omega) (eu_gcd 50 a b bb) ls ?_
  exact lv_sub hl [2, 1, 0] rfl
theorem gm_DR_reduced : gM y_DR_reduced b_DR_reduced 7 (some .long) 3 := ⟨w_682, w_1, ⟨by decide, by decide⟩, by decide +kernel⟩
set_option maxHeartbeats 4000000 in
set_option maxRecDepth 100000 in
/-- DR_reduced  -/
theorem c_DR_reduced (l : Launch) (G : gG) (h : fH) (sz : Nat) (a b : Nat) (pt : Int32) (ba : a < 2 ^ 63) (bb : b < 2 ^ 50) (b0 : 0 < b) : cM l y_DR_reduced b_DR_reduced 7 (some .long) { frames := 1, cells := 0, slots := 0, locals := 30 } G [.long (lN a), .long (lN b), .int pt] h sz (cQl G h sz (fun z h' => z = frA a b pt ∧ h' = h)) := by
  refine f_start (by decide) (Nat.le_of_ble_eq_true rfl) ?_
  intro p e s m below meth c ls C hr hsz hI hl
  obtain ⟨hx, hb, hml, hown, hnm, hlk, hT, hG, hZ⟩ := id C
  have hK := hG.1
  have hX : fX h sz h := fX.rf
  have hl : lv_has ls 7 [(0, .long (lN a)), (2, .long (lN b)), (4, .int pt)] := hl
  have hg0 : 0 < Nat.gcd a b := Nat.gcd_pos_of_pos_right _ b0
  have hg1 : Nat.gcd a b ≤ b := Nat.gcd_le_right _ b0
  refine lv_lload_n hx hb d_DR_reduced_0 rfl (lv_at hl 0 rfl) ?_
  refine lv_lload_n hx hb d_DR_reduced_1 rfl (lv_at hl 1 rfl) ?_
  refine f_calll hI (f_runS C hI (c_DR_commonDivisor l G h _ a b ba bb) gm_DR_commonDivisor w_684 w_683 rfl hl.1 rfl (Nat.le_of_ble_eq_true rfl) ⟨Nat.le_of_ble_eq_true rfl, Nat.le_of_ble_eq_true rfl⟩ d_DR_reduced_2 ⟨Nat.le_of_ble_eq_true rfl, Nat.le_of_ble_eq_true rfl⟩) (fun r_1 h8 H9 locs hp9 hX9 hz9 hI => ?_)
  obtain ⟨rfl, e9⟩ := hp9
  rw [e9] at hI
  clear hX9 e9
  refine lv_lstore (lv' := [(5, .long (lN (Nat.gcd a b))), (0, .long (lN a)), (2, .long (lN b)), (4, .int pt)]) hx hb d_DR_reduced_5 hl (by decide) rfl (fun ls hl => ?_)
  refine lv_lload hx hb d_DR_reduced_7 (lv_at hl 0 rfl) ?_
  refine lv_lconst (v := 1) hx hb d_DR_reduced_9 (by decide) ?_
  refine f_lc_ge (tgt := 18) hx hb d_DR_reduced_10 d_DR_reduced_11 (by decide) (fun c_2 => ?_) (fun c_2 => absurd ((pk_lLE (a := 1) (b := Nat.gcd a b) (by omega) (by omega)).mpr (by omega)) c_2)
  refine lv_iload hx hb d_DR_reduced_18 (lv_at hl 3 rfl) ?_
  refine lv_if_ne (tgt := 27) hx hb d_DR_reduced_20 (by decide) (fun c_3 => ?_) (fun c_3 => ?_)
  · skip
    refine lv_lload_n hx hb d_DR_reduced_27 rfl (lv_at hl 2 rfl) ?_
    refine lv_lload hx hb d_DR_reduced_28 (lv_at hl 0 rfl) ?_
    refine lv_ldiv hx hb d_DR_reduced_30 (l_ne0 (a := (Nat.gcd a b)) (by omega) (by omega)) ?_
    refine f_asl (pk_lDiv (a := b) (b := (Nat.gcd a b)) (by omega) (by omega) (by omega)) ?_
    exact f_lret C hr hI ⟨by unfold frA; rw [if_neg c_3], rfl⟩ hX (Nat.le_refl _) (Nat.le_refl _) d_DR_reduced_31
  · skip
    refine lv_lload_n hx hb d_DR_reduced_23 rfl (lv_at hl 1 rfl) ?_
    refine lv_goto (tgt := 28) hx hb d_DR_reduced_24 (by decide) ?_
    refine lv_lload hx hb d_DR_reduced_28 (lv_at hl 0 rfl) ?_
    refine lv_ldiv hx hb d_DR_reduced_30 (l_ne0 (a := (Nat.gcd a b)) (by omega) (by omega)) ?_
    refine f_asl (pk_lDiv (a := a) (b := (Nat.gcd a b)) (by omega) (by omega) (by omega)) ?_
    exact f_lret C hr hI ⟨by unfold frA; rw [if_pos c_3], rfl⟩ hX (Nat.le_refl _) (Nat.le_refl _) d_DR_reduced_31
theorem gm_DR_write : gM y_DR_write b_DR_write 2 (some .int) 1 := ⟨w_781, w_1, ⟨by decide, by decide⟩, by decide +kernel⟩
set_option maxHeartbeats 4000000 in
set_option maxRecDepth 100000 in
/-- DR_write  -/
theorem c_DR_write (l : Launch) (G : gG) (h : fH) (sz : Nat) (X T E F D I R Wr : Nat) (wa : Int32) (nr lr : Option Nat) (g_X : h X = some (1, 0, .inr (0, [.ref T, .ref E, .ref F, .ref D, .ref I, .ref R, .ref Wr, .int wa, va_rf nr, va_rf lr]))) (wi : Int32) (r1 r2 o1 : Nat) (W9 : List Nat) (hS : sT G h r1 r2 o1 Wr (fun j => W9.getD j 0) W9.length) : cM l y_DR_write b_DR_write 2 (some .int) { frames := 4, cells := 0, slots := 0, locals := 85 } G [.ref X, .int wi] h sz (cQi G h sz (fun z h' => z = gtL wi W9 ∧ h' = h)) := by
  refine f_start (by decide) (Nat.le_of_ble_eq_true rfl) ?_
  intro p e s m below meth c ls C hr hsz hI hl
  obtain ⟨hx, hb, hml, hown, hnm, hlk, hT, hG, hZ⟩ := id C
  have hK := hG.1
  have hX : fX h sz h := fX.rf
  have hl : lv_has ls 2 [(0, .ref X), (1, .int wi)] := hl
  obtain ⟨ub, uc, uf, ufs, g_u, _, _, bw, hwx⟩ := id hS
  by_cases hout : wi < 0 ∨ nI W9.length ≤ wi
  · skip
    refine lv_iload_n hx hb d_DR_write_0 rfl (lv_at hl 1 rfl) ?_
    refine lv_if_lt (tgt := 26) hx hb d_DR_write_1 (by decide) (fun c_1 => ?_) (fun c_1 => ?_)
    · skip
      refine lv_iconst (v := (-1)) hx hb d_DR_write_26 (by decide) ?_
      exact f_iret C hr hI ⟨(gtL_out (by omega) hout).symm, rfl⟩ hX (by (try dsimp only); omega) (by (try dsimp only); omega) d_DR_write_27
    · skip
      refine lv_iload_n hx hb d_DR_write_4 rfl (lv_at hl 1 rfl) ?_
      refine lv_aload_n hx hb d_DR_write_5 rfl (lv_at hl 0 rfl) ?_
      refine f_get (C := "DutyRules") (T := T_DR) (N := 10) hx hb (fun w q => hT w (s_DR w q)) hown hK hI g_X rfl 6 (by decide) (hT _ w_169) (fun _ q => q) rfl d_DR_write_6 ?_
      refine f_calli hI (f_runV C hI (c_ST_len l G h _ r1 r2 o1 Wr W9.length (fun j => W9.getD j 0) hS) gm_ST_length w_369 w_370 w_782 g_u rfl rfl rfl hl.1 rfl (Nat.le_of_ble_eq_true rfl) ⟨Nat.le_of_ble_eq_true rfl, Nat.le_of_ble_eq_true rfl⟩ d_DR_write_9 ⟨Nat.le_of_ble_eq_true rfl, Nat.le_of_ble_eq_true rfl⟩) (fun r_2 h8 H9 locs hp9 hX9 hz9 hI => ?_)
      obtain ⟨rfl, e9⟩ := hp9
      rw [e9] at hI
      clear hX9 e9
      refine lv_icmp_ge (tgt := 26) hx hb d_DR_write_12 (by decide) (fun c_3 => ?_) (fun c_3 => ?_)
      · skip
        refine lv_iconst (v := (-1)) hx hb d_DR_write_26 (by decide) ?_
        exact f_iret C hr hI ⟨(gtL_out (by omega) hout).symm, rfl⟩ hX (by (try dsimp only); omega) (by (try dsimp only); omega) d_DR_write_27
      · skip
        exact absurd hout (fun q => q.elim c_1 c_3)
  · have h0 : ¬ wi < 0 := fun q => hout (Or.inl q)
    obtain ⟨i, hi, rfl⟩ := nI_of h0
    have hi2 : i < W9.length := Nat.lt_of_not_le (fun q => hout (Or.inr ((n_le (by omega) hi).mpr q)))
    refine lv_iload_n hx hb d_DR_write_0 rfl (lv_at hl 1 rfl) ?_
    refine lv_if_lt (tgt := 26) hx hb d_DR_write_1 (by decide) (fun c_4 => absurd c_4 h0) (fun c_4 => ?_)
    refine lv_iload_n hx hb d_DR_write_4 rfl (lv_at hl 1 rfl) ?_
    refine lv_aload_n hx hb d_DR_write_5 rfl (lv_at hl 0 rfl) ?_
    refine f_get (C := "DutyRules") (T := T_DR) (N := 10) hx hb (fun w q => hT w (s_DR w q)) hown hK hI g_X rfl 6 (by decide) (hT _ w_169) (fun _ q => q) rfl d_DR_write_6 ?_
    refine f_calli hI (f_runV C hI (c_ST_len l G h _ r1 r2 o1 Wr W9.length (fun j => W9.getD j 0) hS) gm_ST_length w_369 w_370 w_782 g_u rfl rfl rfl hl.1 rfl (Nat.le_of_ble_eq_true rfl) ⟨Nat.le_of_ble_eq_true rfl, Nat.le_of_ble_eq_true rfl⟩ d_DR_write_9 ⟨Nat.le_of_ble_eq_true rfl, Nat.le_of_ble_eq_true rfl⟩) (fun r_5 h8 H9 locs hp9 hX9 hz9 hI => ?_)
    obtain ⟨rfl, e9⟩ := hp9
    rw [e9] at hI
    clear hX9 e9
    refine lv_icmp_ge (tgt := 26) hx hb d_DR_write_12 (by decide) (fun c_6 => absurd c_6 (fun q => absurd ((n_le (a := W9.length) (b := i) (by omega) (by omega)).mp q) (by omega))) (fun c_6 => ?_)
    refine lv_aload_n hx hb d_DR_write_15 rfl (lv_at hl 0 rfl) ?_
    refine f_get (C := "DutyRules") (T := T_DR) (N := 10) hx hb (fun w q => hT w (s_DR w q)) hown hK hI g_X rfl 6 (by decide) (hT _ w_169) (fun _ q => q) rfl d_DR_write_16 ?_
    refine lv_iload_n hx hb d_DR_write_19 rfl (lv_at hl 1 rfl) ?_
    refine f_calli hI (f_runV C hI (c_ST_at l G h _ r1 r2 o1 Wr i W9.length (fun j => W9.getD j 0) hS hi2) gm_ST_charAt w_377 w_378 w_783 g_u rfl rfl rfl hl.1 rfl (Nat.le_of_ble_eq_true rfl) ⟨Nat.le_of_ble_eq_true rfl, Nat.le_of_ble_eq_true rfl⟩ d_DR_write_20 ⟨Nat.le_of_ble_eq_true rfl, Nat.le_of_ble_eq_true rfl⟩) (fun r_7 h8 H9 locs hp9 hX9 hz9 hI => ?_)
    obtain ⟨rfl, e9⟩ := hp9
    rw [e9] at hI
    clear hX9 e9
    refine lv_goto (tgt := 27) hx hb d_DR_write_23 (by decide) ?_
    exact f_iret C hr hI ⟨(gtL_in hi2 (by omega)).symm, rfl⟩ hX (by (try dsimp only); omega) (by (try dsimp only); omega) d_DR_write_27
theorem gm_DR_open : gM y_DR_open b_DR_open 2 (some .int) 1 := ⟨w_689, w_1, ⟨by decide, by decide⟩, by decide +kernel⟩
set_option maxHeartbeats 4000000 in
set_option maxRecDepth 100000 in
/-- DR_open  -/
theorem c_DR_open (l : Launch) (G : gG) (h : fH) (sz : Nat) (X T E F D I R Wr : Nat) (wa : Int32) (nr lr : Option Nat) (g_X : h X = some (1, 0, .inr (0, [.ref T, .ref E, .ref F, .ref D, .ref I, .ref R, .ref Wr, .int wa, va_rf nr, va_rf lr]))) (wh : Int32) (lt rs : Int32) (hv : Nat → Int32) (d : dst) (hD : cDu G h D 0 lt rs hv d) : cM l y_DR_open b_DR_open 2 (some .int) { frames := 0, cells := 0, slots := 0, locals := 0 } G [.ref X, .int wh] h sz (cQi G h sz (fun z h' => z = (if wa = 0 then -1 else (if wh = 0 then lt else (if wh = 1 then rs else (if wh = 2 then nI d.1.length else -1)))) ∧ h' = h)) := by
  refine f_start (by decide) (Nat.le_of_ble_eq_true rfl) ?_
  intro p e s m below meth c ls C hr hsz hI hl
  obtain ⟨hx, hb, hml, hown, hnm, hlk, hT, hG, hZ⟩ := id C
  have hK := hG.1
  have hX : fX h sz h := fX.rf
  have hl : lv_has ls 2 [(0, .ref X), (1, .int wh)] := hl
  obtain ⟨a1, a2, a3, a4, sl, sr, sc, g_D, g_a1, g_a2, g_a3, g_a4, bdl, hq⟩ := id hD
  obtain ⟨L, fr, ce⟩ := d
  dsimp only at g_D hq bdl
  refine lv_aload_n hx hb d_DR_open_0 rfl (lv_at hl 0 rfl) ?_
  refine f_get (C := "DutyRules") (T := T_DR) (N := 10) hx hb (fun w q => hT w (s_DR w q)) hown hK hI g_X rfl 7 (by decide) (hT _ w_170) (fun _ q => q) rfl d_DR_open_1 ?_
  refine lv_if_ne (tgt := 9) hx hb d_DR_open_4 (by decide) (fun c_1 => ?_) (fun c_1 => ?_)
  · skip
    refine lv_iload_n hx hb d_DR_open_9 rfl (lv_at hl 1 rfl) ?_
    rcases (show wh.toInt = 0 ∨ wh.toInt = 1 ∨ wh.toInt = 2 ∨ (wh.toInt < 0 ∨ 2 < wh.toInt) by omega) with e_2 | e_2 | e_2 | e_2
    · refine lv_tableIn (off := 26) (tgt := 36) hx hb d_DR_open_10 (by rw [e_2]; decide) (by rw [e_2]; decide) (by rw [e_2]; decide) (by decide) ?_
      refine lv_aload_n hx hb d_DR_open_36 rfl (lv_at hl 0 rfl) ?_
      refine f_get (C := "DutyRules") (T := T_DR) (N := 10) hx hb (fun w q => hT w (s_DR w q)) hown hK hI g_X rfl 3 (by decide) (hT _ w_166) (fun _ q => q) rfl d_DR_open_37 ?_
      refine f_getN (C := "DutyRules$Duty") (T := T_DU) (N := 9) hx hb (fun w q => hT w (s_DU w q)) hown hK hI g_D rfl 0 (by decide) (hG.2.1 _ w_108) (fun _ q => q) rfl d_DR_open_40 ?_
      exact f_iret C hr hI ⟨by rw [if_neg c_1, if_pos (show wh = 0 from Int32.toInt_inj.mp (by rw [e_2]; rfl))], rfl⟩ hX (Nat.le_refl _) (Nat.le_refl _) d_DR_open_43
    · refine lv_tableIn (off := 34) (tgt := 44) hx hb d_DR_open_10 (by rw [e_2]; decide) (by rw [e_2]; decide) (by rw [e_2]; decide) (by decide) ?_
      refine lv_aload_n hx hb d_DR_open_44 rfl (lv_at hl 0 rfl) ?_
      refine f_get (C := "DutyRules") (T := T_DR) (N := 10) hx hb (fun w q => hT w (s_DR w q)) hown hK hI g_X rfl 3 (by decide) (hT _ w_166) (fun _ q => q) rfl d_DR_open_45 ?_
      refine f_getN (C := "DutyRules$Duty") (T := T_DU) (N := 9) hx hb (fun w q => hT w (s_DU w q)) hown hK hI g_D rfl 1 (by decide) (hG.2.1 _ w_110) (fun _ q => q) rfl d_DR_open_48 ?_
      exact f_iret C hr hI ⟨by rw [if_neg c_1, if_neg (show ¬ wh = 0 from fun q => by rw [q] at e_2; revert e_2; decide), if_pos (show wh = 1 from Int32.toInt_inj.mp (by rw [e_2]; rfl))], rfl⟩ hX (Nat.le_refl _) (Nat.le_refl _) d_DR_open_51
    · refine lv_tableIn (off := 42) (tgt := 52) hx hb d_DR_open_10 (by rw [e_2]; decide) (by rw [e_2]; decide) (by rw [e_2]; decide) (by decide) ?_
      refine lv_aload_n hx hb d_DR_open_52 rfl (lv_at hl 0 rfl) ?_
      refine f_get (C := "DutyRules") (T := T_DR) (N := 10) hx hb (fun w q => hT w (s_DR w q)) hown hK hI g_X rfl 3 (by decide) (hT _ w_166) (fun _ q => q) rfl d_DR_open_53 ?_
      refine f_getN (C := "DutyRules$Duty") (T := T_DU) (N := 9) hx hb (fun w q => hT w (s_DU w q)) hown hK hI g_D rfl 2 (by decide) (hG.2.1 _ w_112) (fun _ q => q) rfl d_DR_open_56 ?_
      exact f_iret C hr hI ⟨by rw [if_neg c_1, if_neg (show ¬ wh = 0 from fun q => by rw [q] at e_2; revert e_2; decide), if_neg (show ¬ wh = 1 from fun q => by rw [q] at e_2; revert e_2; decide), if_pos (show wh = 2 from Int32.toInt_inj.mp (by rw [e_2]; rfl))], rfl⟩ hX (Nat.le_refl _) (Nat.le_refl _) d_DR_open_59
    · refine lv_tableOut (tgt := 60) hx hb d_DR_open_10 e_2 (by decide) ?_
      refine lv_iconst (v := (-1)) hx hb d_DR_open_60 (by decide) ?_
      exact f_iret C hr hI ⟨by rw [if_neg c_1, if_neg (show ¬ wh = 0 from fun q => by rw [q] at e_2; revert e_2; decide), if_neg (show ¬ wh = 1 from fun q => by rw [q] at e_2; revert e_2; decide), if_neg (show ¬ wh = 2 from fun q => by rw [q] at e_2; revert e_2; decide)], rfl⟩ hX (Nat.le_refl _) (Nat.le_refl _) d_DR_open_61
  · skip
    refine lv_iconst (v := (-1)) hx hb d_DR_open_7 (by decide) ?_
    exact f_iret C hr hI ⟨(if_pos c_1).symm, rfl⟩ hX (Nat.le_refl _) (Nat.le_refl _) d_DR_open_8
theorem gm_DR_step : gM y_DR_step b_DR_step 4 (some .int) 3 := ⟨w_693, w_1, ⟨by decide, by decide⟩, by decide +kernel⟩
set_option maxHeartbeats 4000000 in
set_option maxRecDepth 100000 in
/-- DR_step  -/
theorem c_DR_step_no (l : Launch) (G : gG) (h : fH) (sz : Nat) (X T E F D I R Wr : Nat) (wa : Int32) (nr lr : Option Nat) (g_X : h X = some (1, 0, .inr (0, [.ref T, .ref E, .ref F, .ref D, .ref I, .ref R, .ref Wr, .int wa, va_rf nr, va_rf lr]))) (lot k1 wh : Int32) (lt rs : Int32) (hv : Nat → Int32) (d : dst) (hD : cDu G h D 0 lt rs hv d) (hbad : wa = 0 ∨ ¬ lt = lot ∨ k1 < 0 ∨ ¬ k1 < nI d.1.length) : cM l y_DR_step b_DR_step 4 (some .int) { frames := 1, cells := 0, slots := 0, locals := 23 } G [.ref X, .int lot, .int k1, .int wh] h sz (cQi G h sz (fun z h' => z = -1 ∧ h' = h)) := by
  refine f_start (by decide) (Nat.le_of_ble_eq_true rfl) ?_
  intro p e s m below meth c ls C hr hsz hI hl
  obtain ⟨hx, hb, hml, hown, hnm, hlk, hT, hG, hZ⟩ := id C
  have hK := hG.1
  have hX : fX h sz h := fX.rf
  have hl : lv_has ls 4 [(0, .ref X), (1, .int lot), (2, .int k1), (3, .int wh)] := hl
  obtain ⟨a1, a2, a3, a4, sl, sr, sc, g_D, g_a1, g_a2, g_a3, g_a4, bdl, hq⟩ := id hD
  obtain ⟨L, fr, ce⟩ := d
  dsimp only at g_D hq bdl
  refine lv_aload_n hx hb d_DR_step_0 rfl (lv_at hl 0 rfl) ?_
  refine f_get (C := "DutyRules") (T := T_DR) (N := 10) hx hb (fun w q => hT w (s_DR w q)) hown hK hI g_X rfl 7 (by decide) (hT _ w_170) (fun _ q => q) rfl d_DR_step_1 ?_
  refine lv_if_eq (tgt := 33) hx hb d_DR_step_4 (by decide) (fun c_1 => ?_) (fun c_1 => ?_)
  · skip
    refine lv_iconst (v := (-1)) hx hb d_DR_step_33 (by decide) ?_
    exact f_iret C hr hI ⟨rfl, rfl⟩ hX (Nat.le_refl _) (Nat.le_refl _) d_DR_step_34
  · skip
    refine lv_aload_n hx hb d_DR_step_7 rfl (lv_at hl 0 rfl) ?_
    refine f_get (C := "DutyRules") (T := T_DR) (N := 10) hx hb (fun w q => hT w (s_DR w q)) hown hK hI g_X rfl 3 (by decide) (hT _ w_166) (fun _ q => q) rfl d_DR_step_8 ?_
    refine f_getN (C := "DutyRules$Duty") (T := T_DU) (N := 9) hx hb (fun w q => hT w (s_DU w q)) hown hK hI g_D rfl 0 (by decide) (hG.2.1 _ w_108) (fun _ q => q) rfl d_DR_step_11 ?_
    refine lv_iload_n hx hb d_DR_step_14 rfl (lv_at hl 1 rfl) ?_
    refine lv_icmp_ne (tgt := 33) hx hb d_DR_step_15 (by decide) (fun c_2 => ?_) (fun c_2 => ?_)
    · skip
      refine lv_iconst (v := (-1)) hx hb d_DR_step_33 (by decide) ?_
      exact f_iret C hr hI ⟨rfl, rfl⟩ hX (Nat.le_refl _) (Nat.le_refl _) d_DR_step_34
    · skip
      refine lv_iload_n hx hb d_DR_step_18 rfl (lv_at hl 2 rfl) ?_
      refine lv_if_lt (tgt := 33) hx hb d_DR_step_19 (by decide) (fun c_3 => ?_) (fun c_3 => ?_)
      · skip
        refine lv_iconst (v := (-1)) hx hb d_DR_step_33 (by decide) ?_
        exact f_iret C hr hI ⟨rfl, rfl⟩ hX (Nat.le_refl _) (Nat.le_refl _) d_DR_step_34
      · skip
        refine lv_iload_n hx hb d_DR_step_22 rfl (lv_at hl 2 rfl) ?_
        refine lv_aload_n hx hb d_DR_step_23 rfl (lv_at hl 0 rfl) ?_
        refine f_get (C := "DutyRules") (T := T_DR) (N := 10) hx hb (fun w q => hT w (s_DR w q)) hown hK hI g_X rfl 3 (by decide) (hT _ w_166) (fun _ q => q) rfl d_DR_step_24 ?_
        refine f_getN (C := "DutyRules$Duty") (T := T_DU) (N := 9) hx hb (fun w q => hT w (s_DU w q)) hown hK hI g_D rfl 2 (by decide) (hG.2.1 _ w_112) (fun _ q => q) rfl d_DR_step_27 ?_
        refine lv_icmp_lt (tgt := 35) hx hb d_DR_step_30 (by decide) (fun c_4 => ?_) (fun c_4 => ?_)
        · skip
          exfalso
          rcases hbad with q | q | q | q
          · exact c_1 q
          · exact q c_2
          · exact c_3 q
          · exact q c_4
        · skip
          refine lv_iconst (v := (-1)) hx hb d_DR_step_33 (by decide) ?_
          exact f_iret C hr hI ⟨rfl, rfl⟩ hX (Nat.le_refl _) (Nat.le_refl _) d_DR_step_34
set_option maxHeartbeats 4000000 in
set_option maxRecDepth 100000 in
/-- DR_step  -/
theorem c_DR_step_ok (l : Launch) (G : gG) (h : fH) (sz : Nat) (X T E F D I R Wr : Nat) (wa : Int32) (nr lr : Option Nat) (g_X : h X = some (1, 0, .inr (0, [.ref T, .ref E, .ref F, .ref D, .ref I, .ref R, .ref Wr, .int wa, va_rf nr, va_rf lr]))) (j : Nat) (wh : Int32) (q : Nat × Nat × Nat) (lt rs : Int32) (hv : Nat → Int32) (d : dst) (hD : cDu G h D 0 lt rs hv d) (hwa : ¬ wa = 0) (hj : d.1[j]? = some q) (bq : q.2.2 < 2 ^ 63) : cM l y_DR_step b_DR_step 4 (some .int) { frames := 1, cells := 0, slots := 0, locals := 23 } G [.ref X, .int lt, .int (nI j), .int wh] h sz (cQi G h sz (fun z h' => z = (if wh = 0 then nI q.1 else (if wh = 1 then nI q.2.1 else (if wh = 2 then nI (min q.2.2 2147483647) else -1))) ∧ h' = h)) := by
  refine f_start (by decide) (Nat.le_of_ble_eq_true rfl) ?_
  intro p e s m below meth c ls C hr hsz hI hl
  obtain ⟨hx, hb, hml, hown, hnm, hlk, hT, hG, hZ⟩ := id C
  have hK := hG.1
  have hX : fX h sz h := fX.rf
  have hl : lv_has ls 4 [(0, .ref X), (1, .int lt), (2, .int (nI j)), (3, .int wh)] := hl
  obtain ⟨a1, a2, a3, a4, sl, sr, sc, g_D, g_a1, g_a2, g_a3, g_a4, bdl, hq⟩ := id hD
  obtain ⟨L, fr, ce⟩ := d
  dsimp only at g_D hq bdl
  dsimp only at hj
  have hjl : j < L.length := (List.getElem?_eq_some_iff.mp hj).1
  obtain ⟨q1, q2, q3⟩ := hq j q hj
  refine lv_aload_n hx hb d_DR_step_0 rfl (lv_at hl 0 rfl) ?_
  refine f_get (C := "DutyRules") (T := T_DR) (N := 10) hx hb (fun w q => hT w (s_DR w q)) hown hK hI g_X rfl 7 (by decide) (hT _ w_170) (fun _ q => q) rfl d_DR_step_1 ?_
  refine lv_if_eq (tgt := 33) hx hb d_DR_step_4 (by decide) (fun c_1 => absurd c_1 hwa) (fun c_1 => ?_)
  refine lv_aload_n hx hb d_DR_step_7 rfl (lv_at hl 0 rfl) ?_
  refine f_get (C := "DutyRules") (T := T_DR) (N := 10) hx hb (fun w q => hT w (s_DR w q)) hown hK hI g_X rfl 3 (by decide) (hT _ w_166) (fun _ q => q) rfl d_DR_step_8 ?_
  refine f_getN (C := "DutyRules$Duty") (T := T_DU) (N := 9) hx hb (fun w q => hT w (s_DU w q)) hown hK hI g_D rfl 0 (by decide) (hG.2.1 _ w_108) (fun _ q => q) rfl d_DR_step_11 ?_
  refine lv_iload_n hx hb d_DR_step_14 rfl (lv_at hl 1 rfl) ?_
  refine lv_icmp_ne (tgt := 33) hx hb d_DR_step_15 (by decide) (fun c_2 => absurd rfl c_2) (fun c_2 => ?_)
  refine lv_iload_n hx hb d_DR_step_18 rfl (lv_at hl 2 rfl) ?_
  refine lv_if_lt (tgt := 33) hx hb d_DR_step_19 (by decide) (fun c_3 => absurd c_3 (nI_pos (by omega))) (fun c_3 => ?_)
  refine lv_iload_n hx hb d_DR_step_22 rfl (lv_at hl 2 rfl) ?_
  refine lv_aload_n hx hb d_DR_step_23 rfl (lv_at hl 0 rfl) ?_
  refine f_get (C := "DutyRules") (T := T_DR) (N := 10) hx hb (fun w q => hT w (s_DR w q)) hown hK hI g_X rfl 3 (by decide) (hT _ w_166) (fun _ q => q) rfl d_DR_step_24 ?_
  refine f_getN (C := "DutyRules$Duty") (T := T_DU) (N := 9) hx hb (fun w q => hT w (s_DU w q)) hown hK hI g_D rfl 2 (by decide) (hG.2.1 _ w_112) (fun _ q => q) rfl d_DR_step_27 ?_
  refine lv_icmp_lt (tgt := 35) hx hb d_DR_step_30 (by decide) (fun c_4 => ?_) (fun c_4 => absurd ((n_lt (a := j) (b := L.length) (by omega) (by omega)).mpr (by omega)) c_4)
  refine lv_iload_n hx hb d_DR_step_35 rfl (lv_at hl 3 rfl) ?_
  rcases (show wh.toInt = 0 ∨ wh.toInt = 1 ∨ wh.toInt = 2 ∨ (wh.toInt < 0 ∨ 2 < wh.toInt) by omega) with e_5 | e_5 | e_5 | e_5
  · refine lv_tableIn (off := 28) (tgt := 64) hx hb d_DR_step_36 (by rw [e_5]; decide) (by rw [e_5]; decide) (by rw [e_5]; decide) (by decide) ?_
    refine lv_aload_n hx hb d_DR_step_64 rfl (lv_at hl 0 rfl) ?_
    refine f_get (C := "DutyRules") (T := T_DR) (N := 10) hx hb (fun w q => hT w (s_DR w q)) hown hK hI g_X rfl 3 (by decide) (hT _ w_166) (fun _ q => q) rfl d_DR_step_65 ?_
    refine f_getN (C := "DutyRules$Duty") (T := T_DU) (N := 9) hx hb (fun w q => hT w (s_DU w q)) hown hK hI g_D rfl 6 (by decide) (hG.2.1 _ w_119) (fun _ q => q) rfl d_DR_step_68 ?_
    refine lv_iload_n hx hb d_DR_step_71 rfl (lv_at hl 2 rfl) ?_
    refine f_ialdn (k := j) (v := (nI q.1)) hx hb hI g_a2 (fT.ofK hK (t0 := 0) rfl) (by omega) (by omega) (congrArg nI q1) d_DR_step_72 ?_
    exact f_iret C hr hI ⟨by rw [if_pos (show wh = 0 from Int32.toInt_inj.mp (by rw [e_5]; rfl))], rfl⟩ hX (Nat.le_refl _) (Nat.le_refl _) d_DR_step_73
  · refine lv_tableIn (off := 38) (tgt := 74) hx hb d_DR_step_36 (by rw [e_5]; decide) (by rw [e_5]; decide) (by rw [e_5]; decide) (by decide) ?_
    refine lv_aload_n hx hb d_DR_step_74 rfl (lv_at hl 0 rfl) ?_
    refine f_get (C := "DutyRules") (T := T_DR) (N := 10) hx hb (fun w q => hT w (s_DR w q)) hown hK hI g_X rfl 3 (by decide) (hT _ w_166) (fun _ q => q) rfl d_DR_step_75 ?_
    refine f_getN (C := "DutyRules$Duty") (T := T_DU) (N := 9) hx hb (fun w q => hT w (s_DU w q)) hown hK hI g_D rfl 7 (by decide) (hG.2.1 _ w_121) (fun _ q => q) rfl d_DR_step_78 ?_
    refine lv_iload_n hx hb d_DR_step_81 rfl (lv_at hl 2 rfl) ?_
    refine f_ialdn (k := j) (v := (nI q.2.1)) hx hb hI g_a3 (fT.ofK hK (t0 := 0) rfl) (by omega) (by omega) (congrArg nI q2) d_DR_step_82 ?_
    exact f_iret C hr hI ⟨by rw [if_neg (show ¬ wh = 0 from fun q => by rw [q] at e_5; revert e_5; decide), if_pos (show wh = 1 from Int32.toInt_inj.mp (by rw [e_5]; rfl))], rfl⟩ hX (Nat.le_refl _) (Nat.le_refl _) d_DR_step_83
  · refine lv_tableIn (off := 48) (tgt := 84) hx hb d_DR_step_36 (by rw [e_5]; decide) (by rw [e_5]; decide) (by rw [e_5]; decide) (by decide) ?_
    refine lv_aload_n hx hb d_DR_step_84 rfl (lv_at hl 0 rfl) ?_
    refine f_get (C := "DutyRules") (T := T_DR) (N := 10) hx hb (fun w q => hT w (s_DR w q)) hown hK hI g_X rfl 3 (by decide) (hT _ w_166) (fun _ q => q) rfl d_DR_step_85 ?_
    refine f_getN (C := "DutyRules$Duty") (T := T_DU) (N := 9) hx hb (fun w q => hT w (s_DU w q)) hown hK hI g_D rfl 8 (by decide) (hG.2.1 _ w_123) (fun _ q => q) rfl d_DR_step_88 ?_
    refine lv_iload_n hx hb d_DR_step_91 rfl (lv_at hl 2 rfl) ?_
    refine f_laldn (k := j) (v := (lN q.2.2)) hx hb hI g_a4 (fT.ofK hK (t0 := 1) rfl) (by omega) (by omega) (congrArg lN q3) d_DR_step_92 ?_
    refine lv_ldc2 (v := 2147483647) hx hb hown (hT _ w_694) d_DR_step_93 ?_
    refine va_mmin_long hx hb (hml.trans hl.1.symm) hown (hT _ w_695) (hT _ w_663) (hT _ w_12) (hT _ w_664) (Nat.le_of_ble_eq_true rfl) (Nat.le_of_ble_eq_true rfl) (by first | exact Nat.le_of_ble_eq_true rfl | ((try dsimp only); omega)) (by first | exact Nat.le_of_ble_eq_true rfl | ((try dsimp only); omega)) d_DR_step_96 ?_
    refine f_asl (least_mn (a := q.2.2) (b := 2147483647) (by omega) (by decide)) ?_
    refine lv_l2i (v := nI (min q.2.2 2147483647)) hx hb d_DR_step_99 (n_l2i _) ?_
    exact f_iret C hr hI ⟨by rw [if_neg (show ¬ wh = 0 from fun q => by rw [q] at e_5; revert e_5; decide), if_neg (show ¬ wh = 1 from fun q => by rw [q] at e_5; revert e_5; decide), if_pos (show wh = 2 from Int32.toInt_inj.mp (by rw [e_5]; rfl))], rfl⟩ hX (Nat.le_refl _) (Nat.le_refl _) d_DR_step_100
  · refine lv_tableOut (tgt := 101) hx hb d_DR_step_36 e_5 (by decide) ?_
    refine lv_iconst (v := (-1)) hx hb d_DR_step_101 (by decide) ?_
    exact f_iret C hr hI ⟨by rw [if_neg (show ¬ wh = 0 from fun q => by rw [q] at e_5; revert e_5; decide), if_neg (show ¬ wh = 1 from fun q => by rw [q] at e_5; revert e_5; decide), if_neg (show ¬ wh = 2 from fun q => by rw [q] at e_5; revert e_5; decide)], rfl⟩ hX (Nat.le_refl _) (Nat.le_refl _) d_DR_step_102
theorem gm_DR_returnOf : gM y_DR_returnOf b_DR_returnOf 3 (some (.object "DutyRules$Return")) 1 := ⟨w_715, w_1, ⟨by decide, by decide⟩, by decide +kernel⟩
set_option maxHeartbeats 4000000 in
set_option maxRecDepth 100000 in
/-- DR_returnOf  -/
theorem c_DR_returnOf (l : Launch) (G : gG) (h : fH) (sz : Nat) (X T E F D I R Wr : Nat) (wa : Int32) (nr lr : Option Nat) (g_X : h X = some (1, 0, .inr (0, [.ref T, .ref E, .ref F, .ref D, .ref I, .ref R, .ref Wr, .int wa, va_rf nr, va_rf lr]))) (mo1 : Int32) (nn : Nat) (pr pm th du : Nat → Nat) (chs : Nat → Nat → Int64) (hCh : cCh G h nn pr pm th du chs) (hnr : nr = prv pr nn) : cM l y_DR_returnOf b_DR_returnOf 3 (some (.object "DutyRules$Return")) { frames := 0, cells := 0, slots := 0, locals := 0 } G [.ref X, .int mo1] h sz (cQq G h sz (fun z h' => z = (lst (pmP pm mo1) nn).map pr ∧ h' = h)) := by
  refine f_start (by decide) (Nat.le_of_ble_eq_true rfl) ?_
  intro p e s m below meth c ls C hr hsz hI hl
  obtain ⟨hx, hb, hml, hown, hnm, hlk, hT, hG, hZ⟩ := id C
  have hK := hG.1
  have hX : fX h sz h := fX.rf
  have hl : lv_has ls 3 [(0, .ref X), (1, .int mo1)] := hl
  have J5 : ∀ n : Nat, n ≤ nn → lst (pmP pm mo1) nn = lst (pmP pm mo1) n → ∀ (H : Heap) (locs : List Loc), fI G.1 g_cl (fA h sz) s.heap h H locs → ∀ ls : Array Slot, lv_has ls 3 [(0, .ref X), (1, .int mo1), (2, va_rf (prv pr n))] → W p l e { frames := 0, cells := 0, slots := 0, locals := 0 } s m ([.ref X, .int mo1] : List Value).toArray below meth c H locs 0 0 (MQ below (cQq G h sz (fun z h' => z = (lst (pmP pm mo1) nn).map pr ∧ h' = h)) ([.ref X, .int mo1] : List Value).toArray s 0 0 (fA h sz)) (F0 m 5 ls []) := by
    intro n
    induction n with
    | zero =>
      intro hn hL9 H locs hI ls hl
      have hl : lv_has ls 3 [(0, .ref X), (1, .int mo1), (2, .null)] := hl
      refine lv_aload_nN hx hb d_DR_returnOf_5 rfl (lv_at hl 2 rfl) ?_
      refine lv_ifnullN (tgt := 27) hx hb d_DR_returnOf_6 (by decide) ?_
      refine lv_null hx hb d_DR_returnOf_27 ?_
      exact f_aret (v := none) C hr (Or.inl ⟨_, rfl⟩) hI ⟨by rw [hL9]; rfl, rfl⟩ hX (Nat.le_refl _) (Nat.le_refl _) d_DR_returnOf_28
    | succ n ih =>
      intro hn hL9 H locs hI ls hl
      have hl : lv_has ls 3 [(0, .ref X), (1, .int mo1), (2, .ref (pr n))] := hl
      have ih : n ≤ nn → lst (pmP pm mo1) nn = lst (pmP pm mo1) n → ∀ (H : Heap) (locs : List Loc), fI G.1 g_cl (fA h sz) s.heap h H locs → ∀ ls : Array Slot, lv_has ls 3 [(0, .ref X), (1, .int mo1), (2, va_rf (prv pr n))] → W p l e { frames := 0, cells := 0, slots := 0, locals := 0 } s m ([.ref X, .int mo1] : List Value).toArray below meth c H locs 0 0 (MQ below (cQq G h sz (fun z h' => z = (lst (pmP pm mo1) nn).map pr ∧ h' = h)) ([.ref X, .int mo1] : List Value).toArray s 0 0 (fA h sz)) (F0 m 5 ls []) := ih
      obtain ⟨z1, z2, z3, zc, g_z, _⟩ := hCh.2.2 n (by omega)
      refine lv_aload_n hx hb d_DR_returnOf_5 rfl (lv_at hl 2 rfl) ?_
      refine lv_ifnull hx hb d_DR_returnOf_6 ?_
      refine lv_aload_n hx hb d_DR_returnOf_9 rfl (lv_at hl 2 rfl) ?_
      refine f_getN (C := "DutyRules$Return") (T := T_RE) (N := 5) hx hb (fun w q => hT w (s_RE w q)) hown hK hI g_z rfl 0 (by decide) (hG.2.1 _ w_723) (fun _ q => q) rfl d_DR_returnOf_10 ?_
      refine lv_iload_n hx hb d_DR_returnOf_13 rfl (lv_at hl 1 rfl) ?_
      refine lv_icmp_ne (tgt := 19) hx hb d_DR_returnOf_14 (by decide) (fun c_1 => ?_) (fun c_1 => ?_)
      · skip
        refine lv_aload_n hx hb d_DR_returnOf_19 rfl (lv_at hl 2 rfl) ?_
        refine f_getN (C := "DutyRules$Return") (T := T_RE) (N := 5) hx hb (fun w q => hT w (s_RE w q)) hown hK hI g_z rfl 1 (by decide) (hG.2.1 _ w_725) (fun _ q => q) rfl d_DR_returnOf_20 ?_
        refine f_astore_nq (lv' := [(2, va_rf (prv pr n)), (0, .ref X), (1, .int mo1)]) hx hb d_DR_returnOf_23 rfl hl (by decide) rfl (fun ls hl => ?_)
        refine lv_goto (tgt := 5) hx hb d_DR_returnOf_24 (by decide) ?_
        refine ih (by omega) (hL9.trans (if_neg (by unfold pmP; rw [decide_eq_true_eq]; exact c_1))) _ _ hI ls ?_
        exact lv_sub hl [1, 2, 0] rfl
      · skip
        refine lv_aload_n hx hb d_DR_returnOf_17 rfl (lv_at hl 2 rfl) ?_
        exact f_aret (v := some (pr n)) C hr (Or.inl ⟨_, rfl⟩) hI ⟨by rw [hL9, show lst (pmP pm mo1) (n + 1) = some n from if_pos (by unfold pmP; rw [decide_eq_true_eq]; exact c_1)]; rfl, rfl⟩ hX (Nat.le_refl _) (Nat.le_refl _) d_DR_returnOf_18
  refine lv_aload_n hx hb d_DR_returnOf_0 rfl (lv_at hl 0 rfl) ?_
  refine f_get (C := "DutyRules") (T := T_DR) (N := 10) hx hb (fun w q => hT w (s_DR w q)) hown hK hI g_X rfl 8 (by decide) (hT _ w_171) (fun _ q => q) rfl d_DR_returnOf_1 ?_
  refine f_astore_nq (lv' := [(2, va_rf nr), (0, .ref X), (1, .int mo1)]) hx hb d_DR_returnOf_4 rfl hl (by decide) rfl (fun ls hl => ?_)
  refine J5 nn (Nat.le_refl _) rfl _ _ hI ls ?_
  rw [← hnr]
  exact lv_sub hl [1, 2, 0] rfl
theorem gm_DR_centsOf : gM y_DR_centsOf b_DR_centsOf 4 (some .long) 3 := ⟨w_750, w_1, ⟨by decide, by decide⟩, by decide +kernel⟩
set_option maxHeartbeats 4000000 in
set_option maxRecDepth 100000 in
/-- DR_centsOf  -/
theorem c_DR_centsOf (l : Launch) (G : gG) (h : fH) (sz : Nat) (X T E F D I R Wr : Nat) (wa : Int32) (nr lr : Option Nat) (g_X : h X = some (1, 0, .inr (0, [.ref T, .ref E, .ref F, .ref D, .ref I, .ref R, .ref Wr, .int wa, va_rf nr, va_rf lr]))) (ne : Nat) (ef rr rm : Nat → Nat) (hEd : cEd G h E ne ef rr rm) (A : Nat) (fa : Nat → Nat) (gq : Nat → Option Nat) (nf la : Nat) (fl fk fd fw fv : Nat → Nat) (hC : cFo G h F A fa gq nf la fl fk fd fw fv) (hoks : ∀ e9, e9 < ne → okE rr rm e9) (hbd : ∀ l9 d9 o9, (rk (mK nf fl fk fd fw fv l9 d9 o9) (mE ne ef rr rm d9)).2.2.2 ≤ 2100000000000000000 ∧ (rk (mK nf fl fk fd fw fv l9 d9 o9) (mE ne ef rr rm d9)).2.2.1 ≤ 100000000) (hIn : cIn G h I) (lot day on : Nat) (blot : lot < 30) (bday : day ≤ 100000) (bon : on ≤ 100000) : cM l y_DR_centsOf b_DR_centsOf 4 (some .long) { frames := 5, cells := 0, slots := 0, locals := 122 } G [.ref X, .int (nI lot), .int (nI day), .int (nI on)] h sz (cQl G h sz (fun z h' => z = (if (rk (mK nf fl fk fd fw fv lot day on) (mE ne ef rr rm day)).1 = -1 then lN ((rk (mK nf fl fk fd fw fv lot day on) (mE ne ef rr rm day)).2.2.2 / CT) else -9223372036854775808) ∧ cIn G h' I ∧ fF (inD 1) h h')) := by
  refine f_start (by decide) (Nat.le_of_ble_eq_true rfl) ?_
  intro p e s m below meth c ls C hr hsz hI hl
  obtain ⟨hx, hb, hml, hown, hnm, hlk, hT, hG, hZ⟩ := id C
  have hK := hG.1
  have hX : fX h sz h := fX.rf
  have hl : lv_has ls 4 [(0, .ref X), (1, .int (nI lot)), (2, .int (nI day)), (3, .int (nI on))] := hl
  obtain ⟨lt, rs, hv, d, hD⟩ := hIn
  obtain ⟨i1, i2, i3, i4, il, ir, ic, g_I, _⟩ := id hD
  have hb9 := (hbd lot day on).1
  refine lv_aload_n hx hb d_DR_centsOf_0 rfl (lv_at hl 0 rfl) ?_
  refine f_get (C := "DutyRules") (T := T_DR) (N := 10) hx hb (fun w q => hT w (s_DR w q)) hown hK hI g_X rfl 4 (by decide) (hT _ w_167) (fun _ q => q) rfl d_DR_centsOf_1 ?_
  refine lv_aload_n hx hb d_DR_centsOf_4 rfl (lv_at hl 0 rfl) ?_
  refine f_get (C := "DutyRules") (T := T_DR) (N := 10) hx hb (fun w q => hT w (s_DR w q)) hown hK hI g_X rfl 1 (by decide) (hT _ w_164) (fun _ q => q) rfl d_DR_centsOf_5 ?_
  refine lv_aload_n hx hb d_DR_centsOf_8 rfl (lv_at hl 0 rfl) ?_
  refine f_get (C := "DutyRules") (T := T_DR) (N := 10) hx hb (fun w q => hT w (s_DR w q)) hown hK hI g_X rfl 2 (by decide) (hT _ w_165) (fun _ q => q) rfl d_DR_centsOf_9 ?_
  refine lv_iload_n hx hb d_DR_centsOf_12 rfl (lv_at hl 1 rfl) ?_
  refine lv_iload_n hx hb d_DR_centsOf_13 rfl (lv_at hl 2 rfl) ?_
  refine lv_iload_n hx hb d_DR_centsOf_14 rfl (lv_at hl 3 rfl) ?_
  have hzA := hI.2.2.2.1
  refine f_callv hI (f_runV C hI (c_DU_reckon l G h _ I 1 lt rs hv d hD E ne ef rr rm hEd F A fa gq nf la fl fk fd fw fv hC lot day on blot bday bon hoks) gm_DU_reckon w_623 w_624 w_622 g_I rfl rfl rfl hl.1 rfl (Nat.le_of_ble_eq_true rfl) ⟨Nat.le_of_ble_eq_true rfl, Nat.le_of_ble_eq_true rfl⟩ d_DR_centsOf_15 ⟨Nat.le_of_ble_eq_true rfl, Nat.le_of_ble_eq_true rfl⟩) (fun h9 H9 locs hp9 hX9 hz9 hI => ?_)
  obtain ⟨hv2, hD9, hF9⟩ := hp9
  have hX := fX.tr (Nat.le_trans (Nat.le_of_eq hsz.symm) hzA) hX hX9
  have g_X := hF9 _ _ _ _ g_X (fun q => by have := q.1; omega)
  have hIn9 : cIn G h9 I := ⟨_, _, _, _, hD9⟩
  obtain ⟨i1, i2, i3, i4, il, ir, ic, g_I, _⟩ := id hD9
  refine lv_aload_n hx hb d_DR_centsOf_18 rfl (lv_at hl 0 rfl) ?_
  refine f_get (C := "DutyRules") (T := T_DR) (N := 10) hx hb (fun w q => hT w (s_DR w q)) hown hK hI g_X rfl 4 (by decide) (hT _ w_167) (fun _ q => q) rfl d_DR_centsOf_19 ?_
  refine f_getN (C := "DutyRules$Duty") (T := T_DU) (N := 9) hx hb (fun w q => hT w (s_DU w q)) hown hK hI g_I rfl 1 (by decide) (hG.2.1 _ w_110) (fun _ q => q) rfl d_DR_centsOf_22 ?_
  refine lv_iconst (v := (-1)) hx hb d_DR_centsOf_25 (by decide) ?_
  refine lv_icmp_ne (tgt := 43) hx hb d_DR_centsOf_26 (by decide) (fun c_2 => ?_) (fun c_2 => ?_)
  · skip
    refine lv_ldc2 (v := (-9223372036854775808)) hx hb hown (hT _ w_621) d_DR_centsOf_43 ?_
    exact f_lret C hr hI ⟨(if_neg c_2).symm, hIn9, hF9⟩ hX (Nat.le_refl _) (Nat.le_refl _) d_DR_centsOf_46
  · skip
    refine lv_aload_n hx hb d_DR_centsOf_29 rfl (lv_at hl 0 rfl) ?_
    refine f_get (C := "DutyRules") (T := T_DR) (N := 10) hx hb (fun w q => hT w (s_DR w q)) hown hK hI g_X rfl 4 (by decide) (hT _ w_167) (fun _ q => q) rfl d_DR_centsOf_30 ?_
    refine f_getN (C := "DutyRules$Duty") (T := T_DU) (N := 9) hx hb (fun w q => hT w (s_DU w q)) hown hK hI g_I rfl 3 (by decide) (hG.2.1 _ w_114) (fun _ q => q) rfl d_DR_centsOf_33 ?_
    refine lv_ldc2 (v := 100000000000) hx hb hown (hT _ w_679) d_DR_centsOf_36 ?_
    refine lv_ldiv hx hb d_DR_centsOf_39 (l_ne0 (a := 100000000000) (by omega) (by omega)) ?_
    refine f_asl (pk_lDiv (a := (rk (mK nf fl fk fd fw fv lot day on) (mE ne ef rr rm day)).2.2.2) (b := 100000000000) (by omega) (by omega) (by omega)) ?_
    refine lv_goto (tgt := 46) hx hb d_DR_centsOf_40 (by decide) ?_
    exact f_lret C hr hI ⟨(if_pos c_2).symm, hIn9, hF9⟩ hX (Nat.le_refl _) (Nat.le_refl _) d_DR_centsOf_46
theorem gm_DR_lateShare : gM y_DR_lateShare b_DR_lateShare 4 (some .long) 1 := ⟨w_798, w_1, ⟨by decide, by decide⟩, by decide +kernel⟩
set_option maxHeartbeats 4000000 in
set_option maxRecDepth 100000 in
/-- DR_lateShare  -/
theorem c_DR_lateShare (l : Launch) (G : gG) (h : fH) (sz : Nat) (X T E F D I R Wr : Nat) (wa : Int32) (nr lr : Option Nat) (g_X : h X = some (1, 0, .inr (0, [.ref T, .ref E, .ref F, .ref D, .ref I, .ref R, .ref Wr, .int wa, va_rf nr, va_rf lr]))) (ne : Nat) (ef rr rm : Nat → Nat) (hEd : cEd G h E ne ef rr rm) (hoks : ∀ e9, e9 < ne → okE rr rm e9) (day : Nat) (bday : day ≤ 100000) : cM l y_DR_lateShare b_DR_lateShare 4 (some .long) { frames := 1, cells := 0, slots := 0, locals := 24 } G [.ref X, .int (nI day)] h sz (cQl G h sz (fun z h' => z = lN (lateH ne ef rr rm day) ∧ h' = h)) := by
  refine f_start (by decide) (Nat.le_of_ble_eq_true rfl) ?_
  intro p e s m below meth c ls C hr hsz hI hl
  obtain ⟨hx, hb, hml, hown, hnm, hlk, hT, hG, hZ⟩ := id C
  have hK := hG.1
  have hX : fX h sz h := fX.rf
  have hl : lv_has ls 4 [(0, .ref X), (1, .int (nI day))] := hl
  obtain ⟨A5, A6, ge, g_E, g_A5, g_A6, hge, bne, bef⟩ := id hEd
  rcases eE : eo ef day ne with _ | ed
  · have eM : lateH ne ef rr rm day = 0 := by unfold lateH; rw [eE]
    refine lv_aload_n hx hb d_DR_lateShare_0 rfl (lv_at hl 0 rfl) ?_
    refine f_get (C := "DutyRules") (T := T_DR) (N := 10) hx hb (fun w q => hT w (s_DR w q)) hown hK hI g_X rfl 1 (by decide) (hT _ w_164) (fun _ q => q) rfl d_DR_lateShare_1 ?_
    refine lv_iload_n hx hb d_DR_lateShare_4 rfl (lv_at hl 1 rfl) ?_
    refine f_callq hI (f_runV C hI (c_ED_heldOn l G h _ E ne A5 A6 ge ef day g_E g_A5 g_A6 bne bef bday) gm_ED_heldOn w_627 w_628 w_799 g_E rfl rfl rfl hl.1 rfl (Nat.le_of_ble_eq_true rfl) ⟨Nat.le_of_ble_eq_true rfl, Nat.le_of_ble_eq_true rfl⟩ d_DR_lateShare_5 ⟨Nat.le_of_ble_eq_true rfl, Nat.le_of_ble_eq_true rfl⟩) (fun r_1 h8 H9 locs hp9 hX9 hz9 hI => ?_)
    obtain ⟨rfl, e9q⟩ := hp9
    rw [e9q] at hI
    clear hX9 e9q
    rw [eE]
    show W _ _ _ _ _ _ _ _ _ _ _ _ _ _ _ (F0 m _ ls [.null])
    refine lv_astore_nN (lv' := [(2, .null), (0, .ref X), (1, .int (nI day))]) hx hb d_DR_lateShare_8 rfl hl (by decide) rfl (fun ls hl => ?_)
    refine lv_aload_nN hx hb d_DR_lateShare_9 rfl (lv_at hl 0 rfl) ?_
    refine lv_ifnonnullN hx hb d_DR_lateShare_10 ?_
    refine lv_lconst (v := 0) hx hb d_DR_lateShare_13 (by decide) ?_
    exact f_lret C hr hI ⟨by rw [eM]; rfl, rfl⟩ hX (Nat.le_refl _) (Nat.le_refl _) d_DR_lateShare_14
  · have hlt9 := (eo_lt eE).1
    obtain ⟨R9, hgR, hc⟩ := hge ed hlt9
    obtain ⟨kf0, nf0, ⟨b1, b2, g_R, _⟩, _⟩ := id hc
    have hok := hoks ed hlt9
    have hrm := (show rm ed ≤ 40 by obtain ⟨_, _, ⟨_, _, _, _, _, q, _⟩, _⟩ := id hc; exact q)
    rcases eS : mF rr rm ed 5 0 0 with _ | r
    · have eM : lateH ne ef rr rm day = 0 := by unfold lateH; rw [eE]; show (match mF rr rm ed 5 0 0 with | none => 0 | some r => _) = 0; rw [eS]
      refine lv_aload_n hx hb d_DR_lateShare_0 rfl (lv_at hl 0 rfl) ?_
      refine f_get (C := "DutyRules") (T := T_DR) (N := 10) hx hb (fun w q => hT w (s_DR w q)) hown hK hI g_X rfl 1 (by decide) (hT _ w_164) (fun _ q => q) rfl d_DR_lateShare_1 ?_
      refine lv_iload_n hx hb d_DR_lateShare_4 rfl (lv_at hl 1 rfl) ?_
      refine f_callq hI (f_runV C hI (c_ED_heldOn l G h _ E ne A5 A6 ge ef day g_E g_A5 g_A6 bne bef bday) gm_ED_heldOn w_627 w_628 w_799 g_E rfl rfl rfl hl.1 rfl (Nat.le_of_ble_eq_true rfl) ⟨Nat.le_of_ble_eq_true rfl, Nat.le_of_ble_eq_true rfl⟩ d_DR_lateShare_5 ⟨Nat.le_of_ble_eq_true rfl, Nat.le_of_ble_eq_true rfl⟩) (fun r_2 h8 H9 locs hp9 hX9 hz9 hI => ?_)
      obtain ⟨rfl, e9q⟩ := hp9
      rw [e9q] at hI
      clear hX9 e9q
      rw [eE]
      rw [show (some ed).bind ge = some R9 from hgR]
      show W _ _ _ _ _ _ _ _ _ _ _ _ _ _ _ (F0 m _ ls [.ref R9])
      refine lv_astore_n (lv' := [(2, .ref R9), (0, .ref X), (1, .int (nI day))]) hx hb d_DR_lateShare_8 rfl hl (by decide) rfl (fun ls hl => ?_)
      refine lv_aload_n hx hb d_DR_lateShare_9 rfl (lv_at hl 0 rfl) ?_
      refine lv_ifnonnull (tgt := 15) hx hb d_DR_lateShare_10 (by decide) ?_
      refine lv_aload_n hx hb d_DR_lateShare_15 rfl (lv_at hl 0 rfl) ?_
      refine lv_iconst (v := 5) hx hb d_DR_lateShare_16 (by decide) ?_
      refine f_calli hI (f_runV C hI (k_kind l G h _ R9 ed rr rm hc 5 (by decide) (by decide)) gm_RU_firstOfKind w_461 w_462 w_800 g_R rfl rfl rfl hl.1 rfl (Nat.le_of_ble_eq_true rfl) ⟨Nat.le_of_ble_eq_true rfl, Nat.le_of_ble_eq_true rfl⟩ d_DR_lateShare_17 ⟨Nat.le_of_ble_eq_true rfl, Nat.le_of_ble_eq_true rfl⟩) (fun r_3 h8 H9 locs hp9 hX9 hz9 hI => ?_)
      obtain ⟨rfl, e9⟩ := hp9
      rw [e9] at hI
      clear hX9 e9
      rw [eS]
      refine lv_istore_n (lv' := [(3, .int (-1)), (2, .ref R9), (0, .ref X), (1, .int (nI day))]) hx hb d_DR_lateShare_20 rfl hl (by decide) rfl (fun ls hl => ?_)
      refine lv_iload_n hx hb d_DR_lateShare_21 rfl (lv_at hl 0 rfl) ?_
      refine lv_iconst (v := (-1)) hx hb d_DR_lateShare_22 (by decide) ?_
      refine lv_icmp_ne (tgt := 30) hx hb d_DR_lateShare_23 (by decide) (fun c_4 => absurd rfl c_4) (fun c_4 => ?_)
      refine lv_lconst (v := 0) hx hb d_DR_lateShare_26 (by decide) ?_
      refine lv_goto (tgt := 37) hx hb d_DR_lateShare_27 (by decide) ?_
      exact f_lret C hr hI ⟨by rw [eM]; rfl, rfl⟩ hX (Nat.le_refl _) (Nat.le_refl _) d_DR_lateShare_37
    · obtain ⟨hrn, hkr⟩ := mF_k eS
      have hv5 : mV rr ed r 1 ≤ 100 := (hok r hrn).2.2.2.2.2.2.2 hkr
      have eM : lateH ne ef rr rm day = mV rr ed r 1 := by unfold lateH; rw [eE]; show (match mF rr rm ed 5 0 0 with | none => 0 | some r => _) = _; rw [eS]; rfl
      refine lv_aload_n hx hb d_DR_lateShare_0 rfl (lv_at hl 0 rfl) ?_
      refine f_get (C := "DutyRules") (T := T_DR) (N := 10) hx hb (fun w q => hT w (s_DR w q)) hown hK hI g_X rfl 1 (by decide) (hT _ w_164) (fun _ q => q) rfl d_DR_lateShare_1 ?_
      refine lv_iload_n hx hb d_DR_lateShare_4 rfl (lv_at hl 1 rfl) ?_
      refine f_callq hI (f_runV C hI (c_ED_heldOn l G h _ E ne A5 A6 ge ef day g_E g_A5 g_A6 bne bef bday) gm_ED_heldOn w_627 w_628 w_799 g_E rfl rfl rfl hl.1 rfl (Nat.le_of_ble_eq_true rfl) ⟨Nat.le_of_ble_eq_true rfl, Nat.le_of_ble_eq_true rfl⟩ d_DR_lateShare_5 ⟨Nat.le_of_ble_eq_true rfl, Nat.le_of_ble_eq_true rfl⟩) (fun r_5 h8 H9 locs hp9 hX9 hz9 hI => ?_)
      obtain ⟨rfl, e9q⟩ := hp9
      rw [e9q] at hI
      clear hX9 e9q
      rw [eE]
      rw [show (some ed).bind ge = some R9 from hgR]
      show W _ _ _ _ _ _ _ _ _ _ _ _ _ _ _ (F0 m _ ls [.ref R9])
      refine lv_astore_n (lv' := [(2, .ref R9), (0, .ref X), (1, .int (nI day))]) hx hb d_DR_lateShare_8 rfl hl (by decide) rfl (fun ls hl => ?_)
      refine lv_aload_n hx hb d_DR_lateShare_9 rfl (lv_at hl 0 rfl) ?_
      refine lv_ifnonnull (tgt := 15) hx hb d_DR_lateShare_10 (by decide) ?_
      refine lv_aload_n hx hb d_DR_lateShare_15 rfl (lv_at hl 0 rfl) ?_
      refine lv_iconst (v := 5) hx hb d_DR_lateShare_16 (by decide) ?_
      refine f_calli hI (f_runV C hI (k_kind l G h _ R9 ed rr rm hc 5 (by decide) (by decide)) gm_RU_firstOfKind w_461 w_462 w_800 g_R rfl rfl rfl hl.1 rfl (Nat.le_of_ble_eq_true rfl) ⟨Nat.le_of_ble_eq_true rfl, Nat.le_of_ble_eq_true rfl⟩ d_DR_lateShare_17 ⟨Nat.le_of_ble_eq_true rfl, Nat.le_of_ble_eq_true rfl⟩) (fun r_6 h8 H9 locs hp9 hX9 hz9 hI => ?_)
      obtain ⟨rfl, e9⟩ := hp9
      rw [e9] at hI
      clear hX9 e9
      rw [eS]
      refine lv_istore_n (lv' := [(3, .int (nI r)), (2, .ref R9), (0, .ref X), (1, .int (nI day))]) hx hb d_DR_lateShare_20 rfl hl (by decide) rfl (fun ls hl => ?_)
      refine lv_iload_n hx hb d_DR_lateShare_21 rfl (lv_at hl 0 rfl) ?_
      refine lv_iconst (v := (-1)) hx hb d_DR_lateShare_22 (by decide) ?_
      refine lv_icmp_ne (tgt := 30) hx hb d_DR_lateShare_23 (by decide) (fun c_7 => ?_) (fun c_7 => absurd c_7 (n_m1 (by omega)))
      refine lv_aload_n hx hb d_DR_lateShare_30 rfl (lv_at hl 1 rfl) ?_
      refine lv_iload_n hx hb d_DR_lateShare_31 rfl (lv_at hl 0 rfl) ?_
      refine lv_iconst (v := 0) hx hb d_DR_lateShare_32 (by decide) ?_
      refine f_calli hI (f_runV C hI (k_number l G h _ R9 ed rr rm hc r 0 hrn (by rw [hkr]; decide)) gm_RU_number w_490 w_491 w_801 g_R rfl rfl rfl hl.1 rfl (Nat.le_of_ble_eq_true rfl) ⟨Nat.le_of_ble_eq_true rfl, Nat.le_of_ble_eq_true rfl⟩ d_DR_lateShare_33 ⟨Nat.le_of_ble_eq_true rfl, Nat.le_of_ble_eq_true rfl⟩) (fun r_8 h8 H9 locs hp9 hX9 hz9 hI => ?_)
      obtain ⟨rfl, e9⟩ := hp9
      rw [e9] at hI
      clear hX9 e9
      refine f_asi (show nI (mV rr ed r (0 + 1)) = nI (mV rr ed r 1) from rfl) ?_
      refine lv_i2l (v := lN (mV rr ed r 1)) hx hb d_DR_lateShare_36 (n_i2l (by omega)) ?_
      exact f_lret C hr hI ⟨by rw [eM], rfl⟩ hX (Nat.le_refl _) (Nat.le_refl _) d_DR_lateShare_37
