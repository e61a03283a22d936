theorem gm_RU_kind : gM y_RU_kind b_RU_kind 2 (some .int) 1 := ⟨w_502, w_9, ⟨by decide, by decide⟩, by decide +kernel⟩
set_option maxHeartbeats 4000000 in
set_option maxRecDepth 100000 in
/-- RU_kind  -/
theorem c_RU_kind (l : Launch) (G : gG) (h : fH) (sz : Nat) (R i cnt r r2 r3 : Nat) (kf nf : Nat → Nat) (hR : rU G h r r2 r3 R cnt kf nf) (hi : i < cnt) : cM l y_RU_kind b_RU_kind 2 (some .int) { frames := 0, cells := 0, slots := 0, locals := 0 } G [.ref R, .int (nI i)] h sz (cQi G h sz (fun x h' => x = nI (kf i) ∧ h' = h)) := by
  refine f_start (by decide) (Nat.le_of_ble_eq_true rfl) ?_
  intro p e s m below meth c ls C hr hsz hI hl
  obtain ⟨hx, hb, hml, hown, hnm, hlk, hT, hG, hZ⟩ := id C
  have hK := hG.1
  have hX : fX h sz h := fX.rf
  have hl : lv_has ls 2 [(0, .ref R), (1, .int (nI i))] := hl
  obtain ⟨a1, a2, g_R, g_a1, g_a2, bcnt, bkf, bnf⟩ := id hR
  refine lv_iload_n hx hb d_RU_kind_0 rfl (lv_at hl 1 rfl) ?_
  refine lv_if_lt (tgt := 21) hx hb d_RU_kind_1 (by decide) (fun c_1 => absurd c_1 (nI_pos (by omega))) (fun c_1 => ?_)
  refine lv_iload_n hx hb d_RU_kind_4 rfl (lv_at hl 1 rfl) ?_
  refine lv_aload_n hx hb d_RU_kind_5 rfl (lv_at hl 0 rfl) ?_
  refine f_get (C := "DutyRules$Rules") (T := T_RU) (N := 3) hx hb (fun w q => hT w (s_RU w q)) hown hK hI g_R rfl 0 (by decide) (hT _ w_150) (fun _ q => q) rfl d_RU_kind_6 ?_
  refine lv_icmp_ge (tgt := 21) hx hb d_RU_kind_9 (by decide) (fun c_2 => absurd c_2 (fun q => absurd ((n_le (a := cnt) (b := i) (by omega) (by omega)).mp q) (by omega))) (fun c_2 => ?_)
  refine lv_aload_n hx hb d_RU_kind_12 rfl (lv_at hl 0 rfl) ?_
  refine f_get (C := "DutyRules$Rules") (T := T_RU) (N := 3) hx hb (fun w q => hT w (s_RU w q)) hown hK hI g_R rfl 1 (by decide) (hT _ w_153) (fun _ q => q) rfl d_RU_kind_13 ?_
  refine lv_iload_n hx hb d_RU_kind_16 rfl (lv_at hl 1 rfl) ?_
  refine f_ialdn (k := i) (v := (nI (kf i))) hx hb hI g_a1 (fT.ofK hK (t0 := 0) rfl) (by omega) (by omega) rfl d_RU_kind_17 ?_
  refine lv_goto (tgt := 22) hx hb d_RU_kind_18 (by decide) ?_
  exact f_iret C hr hI ⟨rfl, rfl⟩ hX (Nat.le_refl _) (Nat.le_refl _) d_RU_kind_22
theorem gm_RU_number : gM y_RU_number b_RU_number 3 (some .int) 2 := ⟨w_492, w_9, ⟨by decide, by decide⟩, by decide +kernel⟩
set_option maxHeartbeats 4000000 in
set_option maxRecDepth 100000 in
/-- RU_number  -/
theorem c_RU_number (l : Launch) (G : gG) (h : fH) (sz : Nat) (R cnt r r2 r3 : Nat) (kf nf : Nat → Nat) (i k : Nat) (hR : rU G h r r2 r3 R cnt kf nf) (hi : i < cnt) (hk4 : k < 4) : cM l y_RU_number b_RU_number 3 (some .int) { frames := 0, cells := 0, slots := 0, locals := 0 } G [.ref R, .int (nI i), .int (nI k)] h sz (cQi G h sz (fun x h' => x = nI (nf (i * 4 + k)) ∧ h' = h)) := by
  refine f_start (by decide) (Nat.le_of_ble_eq_true rfl) ?_
  intro p e s m below meth c ls C hr hsz hI hl
  obtain ⟨hx, hb, hml, hown, hnm, hlk, hT, hG, hZ⟩ := id C
  have hK := hG.1
  have hX : fX h sz h := fX.rf
  have hl : lv_has ls 3 [(0, .ref R), (1, .int (nI i)), (2, .int (nI k))] := hl
  obtain ⟨a1, a2, g_R, g_a1, g_a2, bcnt, bkf, bnf⟩ := id hR
  refine lv_iload_n hx hb d_RU_number_0 rfl (lv_at hl 1 rfl) ?_
  refine lv_if_lt (tgt := 21) hx hb d_RU_number_1 (by decide) (fun c_1 => absurd c_1 (nI_pos (by omega))) (fun c_1 => ?_)
  refine lv_iload_n hx hb d_RU_number_4 rfl (lv_at hl 1 rfl) ?_
  refine lv_aload_n hx hb d_RU_number_5 rfl (lv_at hl 0 rfl) ?_
  refine f_get (C := "DutyRules$Rules") (T := T_RU) (N := 3) hx hb (fun w q => hT w (s_RU w q)) hown hK hI g_R rfl 0 (by decide) (hT _ w_150) (fun _ q => q) rfl d_RU_number_6 ?_
  refine lv_icmp_ge (tgt := 21) hx hb d_RU_number_9 (by decide) (fun c_2 => absurd c_2 (fun q => absurd ((n_le (a := cnt) (b := i) (by omega) (by omega)).mp q) (by omega))) (fun c_2 => ?_)
  refine lv_iload_n hx hb d_RU_number_12 rfl (lv_at hl 2 rfl) ?_
  refine lv_if_lt (tgt := 21) hx hb d_RU_number_13 (by decide) (fun c_3 => absurd c_3 (nI_pos (by omega))) (fun c_3 => ?_)
  refine lv_iload_n hx hb d_RU_number_16 rfl (lv_at hl 2 rfl) ?_
  refine lv_iconst (v := 4) hx hb d_RU_number_17 (by decide) ?_
  refine lv_icmp_lt (tgt := 23) hx hb d_RU_number_18 (by decide) (fun c_4 => ?_) (fun c_4 => absurd ((n_lt (a := k) (b := 4) (by omega) (by omega)).mpr (by omega)) c_4)
  refine lv_aload_n hx hb d_RU_number_23 rfl (lv_at hl 0 rfl) ?_
  refine f_get (C := "DutyRules$Rules") (T := T_RU) (N := 3) hx hb (fun w q => hT w (s_RU w q)) hown hK hI g_R rfl 2 (by decide) (hT _ w_154) (fun _ q => q) rfl d_RU_number_24 ?_
  refine lv_iload_n hx hb d_RU_number_27 rfl (lv_at hl 1 rfl) ?_
  refine lv_iconst (v := 4) hx hb d_RU_number_28 (by decide) ?_
  refine lv_imul hx hb d_RU_number_29 ?_
  refine f_asi (pk_mul i 4) ?_
  refine lv_iload_n hx hb d_RU_number_30 rfl (lv_at hl 2 rfl) ?_
  refine lv_iadd hx hb d_RU_number_31 ?_
  refine f_asi (nI_add (i * 4) k) ?_
  refine f_ialdn (k := ((i * 4) + k)) (v := (nI (nf ((i * 4) + k)))) hx hb hI g_a2 (fT.ofK hK (t0 := 0) rfl) (by omega) (by omega) rfl d_RU_number_32 ?_
  exact f_iret C hr hI ⟨rfl, rfl⟩ hX (Nat.le_refl _) (Nat.le_refl _) d_RU_number_33
theorem gm_RU_firstOfKind : gM y_RU_firstOfKind b_RU_firstOfKind 3 (some .int) 1 := ⟨w_463, w_9, ⟨by decide, by decide⟩, by decide +kernel⟩
set_option maxHeartbeats 4000000 in
set_option maxRecDepth 100000 in
/-- RU_firstOfKind  -/
theorem c_RU_firstOfKind (l : Launch) (G : gG) (h : fH) (sz : Nat) (R cnt r r2 r3 : Nat) (kf nf : Nat → Nat) (hR : rU G h r r2 r3 R cnt kf nf) (K : Nat) (bK : K < 2 ^ 31) : cM l y_RU_firstOfKind b_RU_firstOfKind 3 (some .int) { frames := 0, cells := 0, slots := 0, locals := 0 } G [.ref R, .int (nI K)] h sz (cQi G h sz (fun x h' => x = oN (ff (fun n => decide (kf n = K)) 0 cnt) ∧ h' = h)) := by
  refine f_start (by decide) (Nat.le_of_ble_eq_true rfl) ?_
  intro p e s m below meth c ls C hr hsz hI hl
  obtain ⟨hx, hb, hml, hown, hnm, hlk, hT, hG, hZ⟩ := id C
  have hK := hG.1
  have hX : fX h sz h := fX.rf
  have hl : lv_has ls 3 [(0, .ref R), (1, .int (nI K))] := hl
  obtain ⟨a1, a2, g_R, g_a1, g_a2, bcnt, bkf, bnf⟩ := id hR
  have J2 : ∀ (k n : Nat), n + k = cnt → ff (fun n => decide (kf n = K)) 0 cnt = ff (fun n => decide (kf n = K)) n k → ∀ (H : Heap) (locs : List Loc), fI G.1 g_cl (fA h sz) s.heap h H locs → ∀ ls : Array Slot, lv_has ls 3 [(0, .ref R), (1, .int (nI K)), (2, .int (nI n))] → W p l e { frames := 0, cells := 0, slots := 0, locals := 0 } s m ([.ref R, .int (nI K)] : List Value).toArray below meth c H locs 0 0 (MQ below (cQi G h sz (fun x h' => x = oN (ff (fun n => decide (kf n = K)) 0 cnt) ∧ h' = h)) ([.ref R, .int (nI K)] : List Value).toArray s 0 0 (fA h sz)) (F0 m 2 ls []) := by
    intro k
    induction k with
    | zero =>
      intro n hn hff H locs hI ls hl
      refine lv_iload_n hx hb d_RU_firstOfKind_2 rfl (lv_at hl 2 rfl) ?_
      refine lv_aload_n hx hb d_RU_firstOfKind_3 rfl (lv_at hl 0 rfl) ?_
      refine f_get (C := "DutyRules$Rules") (T := T_RU) (N := 3) hx hb (fun w q => hT w (s_RU w q)) hown hK hI g_R rfl 0 (by decide) (hT _ w_150) (fun _ q => q) rfl d_RU_firstOfKind_4 ?_
      refine lv_icmp_ge (tgt := 28) hx hb d_RU_firstOfKind_7 (by decide) (fun c_1 => ?_) (fun c_1 => absurd ((n_le (a := cnt) (b := n) (by omega) (by omega)).mpr (by omega)) c_1)
      refine lv_iconst (v := (-1)) hx hb d_RU_firstOfKind_28 (by decide) ?_
      exact f_iret C hr hI ⟨by rw [hff]; rfl, rfl⟩ hX (Nat.le_refl _) (Nat.le_refl _) d_RU_firstOfKind_29
    | succ k ih =>
      intro n hn hff H locs hI ls hl
      have ih : ∀ n : Nat, n + k = cnt → ff (fun n => decide (kf n = K)) 0 cnt = ff (fun n => decide (kf n = K)) n k → ∀ (H : Heap) (locs : List Loc), fI G.1 g_cl (fA h sz) s.heap h H locs → ∀ ls : Array Slot, lv_has ls 3 [(0, .ref R), (1, .int (nI K)), (2, .int (nI n))] → W p l e { frames := 0, cells := 0, slots := 0, locals := 0 } s m ([.ref R, .int (nI K)] : List Value).toArray below meth c H locs 0 0 (MQ below (cQi G h sz (fun x h' => x = oN (ff (fun n => decide (kf n = K)) 0 cnt) ∧ h' = h)) ([.ref R, .int (nI K)] : List Value).toArray s 0 0 (fA h sz)) (F0 m 2 ls []) := ih
      refine lv_iload_n hx hb d_RU_firstOfKind_2 rfl (lv_at hl 2 rfl) ?_
      refine lv_aload_n hx hb d_RU_firstOfKind_3 rfl (lv_at hl 0 rfl) ?_
      refine f_get (C := "DutyRules$Rules") (T := T_RU) (N := 3) hx hb (fun w q => hT w (s_RU w q)) hown hK hI g_R rfl 0 (by decide) (hT _ w_150) (fun _ q => q) rfl d_RU_firstOfKind_4 ?_
      refine lv_icmp_ge (tgt := 28) hx hb d_RU_firstOfKind_7 (by decide) (fun c_2 => absurd c_2 (fun q => absurd ((n_le (a := cnt) (b := n) (by omega) (by omega)).mp q) (by omega))) (fun c_2 => ?_)
      refine lv_aload_n hx hb d_RU_firstOfKind_10 rfl (lv_at hl 0 rfl) ?_
      refine f_get (C := "DutyRules$Rules") (T := T_RU) (N := 3) hx hb (fun w q => hT w (s_RU w q)) hown hK hI g_R rfl 1 (by decide) (hT _ w_153) (fun _ q => q) rfl d_RU_firstOfKind_11 ?_
      refine lv_iload_n hx hb d_RU_firstOfKind_14 rfl (lv_at hl 2 rfl) ?_
      refine f_ialdn (k := n) (v := (nI (kf n))) hx hb hI g_a1 (fT.ofK hK (t0 := 0) rfl) (by omega) (by omega) rfl d_RU_firstOfKind_15 ?_
      refine lv_iload_n hx hb d_RU_firstOfKind_16 rfl (lv_at hl 1 rfl) ?_
      refine lv_icmp_ne (tgt := 22) hx hb d_RU_firstOfKind_17 (by decide) (fun c_3 => ?_) (fun c_3 => ?_)
      · have c_3 : ¬ (kf n) = K := fun q => c_3 ((n_eq (a := (kf n)) (b := K) (by have := bkf n; omega) (by omega)).mpr q)
        refine lv_iinc (v := nI (n + 1)) (lv' := [(2, .int (nI (n + 1))), (0, .ref R), (1, .int (nI K))]) hx hb d_RU_firstOfKind_22 hl (k := 2) rfl (f_inc1 _) (by decide) rfl (fun ls hl => ?_)
        refine lv_goto (tgt := 2) hx hb d_RU_firstOfKind_25 (by decide) ?_
        have hP : ¬ (fun n => decide (kf n = K)) n = true := by simp only [decide_eq_true_eq]; omega
        refine ih (n + 1) (by omega) (hff.trans ?_) _ _ hI ls ?_
        · show (if _ then _ else _) = _
          exact if_neg hP
        exact lv_sub hl [1, 2, 0] rfl
      · have c_3 : (kf n) = K := (n_eq (a := (kf n)) (b := K) (by have := bkf n; omega) (by omega)).mp c_3
        refine lv_iload_n hx hb d_RU_firstOfKind_20 rfl (lv_at hl 2 rfl) ?_
        exact f_iret C hr hI ⟨by rw [hff, show ff (fun n => decide (kf n = K)) n (k + 1) = some n from if_pos (by simp only [decide_eq_true_eq]; omega)]; rfl, rfl⟩ hX (Nat.le_refl _) (Nat.le_refl _) d_RU_firstOfKind_21
  refine lv_iconst (v := 0) hx hb d_RU_firstOfKind_0 (by decide) ?_
  refine lv_istore_n (lv' := [(2, .int 0), (0, .ref R), (1, .int (nI K))]) hx hb d_RU_firstOfKind_1 rfl hl (by decide) rfl (fun ls hl => ?_)
  refine J2 cnt 0 (by omega) rfl _ _ hI ls ?_
  exact lv_sub hl [1, 2, 0] rfl
theorem gm_RU_firstOfGoods : gM y_RU_firstOfGoods b_RU_firstOfGoods 4 (some .int) 2 := ⟨w_645, w_9, ⟨by decide, by decide⟩, by decide +kernel⟩
set_option maxHeartbeats 4000000 in
set_option maxRecDepth 100000 in
/-- RU_firstOfGoods  -/
theorem c_RU_firstOfGoods (l : Launch) (G : gG) (h : fH) (sz : Nat) (R cnt r r2 r3 : Nat) (kf nf : Nat → Nat) (hR : rU G h r r2 r3 R cnt kf nf) (K g : Nat) (bK : K < 2 ^ 31) (bg : g < 2 ^ 31) : cM l y_RU_firstOfGoods b_RU_firstOfGoods 4 (some .int) { frames := 1, cells := 0, slots := 0, locals := 22 } G [.ref R, .int (nI K), .int (nI g)] h sz (cQi G h sz (fun x h' => x = oN (ff (fun n => decide (kf n = K ∧ nf (n * 4 + 0) = g)) 0 cnt) ∧ h' = h)) := by
  refine f_start (by decide) (Nat.le_of_ble_eq_true rfl) ?_
  intro p e s m below meth c ls C hr hsz hI hl
  obtain ⟨hx, hb, hml, hown, hnm, hlk, hT, hG, hZ⟩ := id C
  have hK := hG.1
  have hX : fX h sz h := fX.rf
  have hl : lv_has ls 4 [(0, .ref R), (1, .int (nI K)), (2, .int (nI g))] := hl
  obtain ⟨a1, a2, g_R, g_a1, g_a2, bcnt, bkf, bnf⟩ := id hR
  have J2 : ∀ (k n : Nat), n + k = cnt → ff (fun n => decide (kf n = K ∧ nf (n * 4 + 0) = g)) 0 cnt = ff (fun n => decide (kf n = K ∧ nf (n * 4 + 0) = g)) n k → ∀ (H : Heap) (locs : List Loc), fI G.1 g_cl (fA h sz) s.heap h H locs → ∀ ls : Array Slot, lv_has ls 4 [(0, .ref R), (1, .int (nI K)), (2, .int (nI g)), (3, .int (nI n))] → W p l e { frames := 1, cells := 0, slots := 0, locals := 22 } s m ([.ref R, .int (nI K), .int (nI g)] : List Value).toArray below meth c H locs 0 0 (MQ below (cQi G h sz (fun x h' => x = oN (ff (fun n => decide (kf n = K ∧ nf (n * 4 + 0) = g)) 0 cnt) ∧ h' = h)) ([.ref R, .int (nI K), .int (nI g)] : List Value).toArray s 0 0 (fA h sz)) (F0 m 2 ls []) := by
    intro k
    induction k with
    | zero =>
      intro n hn hff H locs hI ls hl
      refine lv_iload_n hx hb d_RU_firstOfGoods_2 rfl (lv_at hl 3 rfl) ?_
      refine lv_aload_n hx hb d_RU_firstOfGoods_3 rfl (lv_at hl 0 rfl) ?_
      refine f_get (C := "DutyRules$Rules") (T := T_RU) (N := 3) hx hb (fun w q => hT w (s_RU w q)) hown hK hI g_R rfl 0 (by decide) (hT _ w_150) (fun _ q => q) rfl d_RU_firstOfGoods_4 ?_
      refine lv_icmp_ge (tgt := 38) hx hb d_RU_firstOfGoods_7 (by decide) (fun c_1 => ?_) (fun c_1 => absurd ((n_le (a := cnt) (b := n) (by omega) (by omega)).mpr (by omega)) c_1)
      refine lv_iconst (v := (-1)) hx hb d_RU_firstOfGoods_38 (by decide) ?_
      exact f_iret C hr hI ⟨by rw [hff]; rfl, rfl⟩ hX (Nat.le_refl _) (Nat.le_refl _) d_RU_firstOfGoods_39
    | succ k ih =>
      intro n hn hff H locs hI ls hl
      have ih : ∀ n : Nat, n + k = cnt → ff (fun n => decide (kf n = K ∧ nf (n * 4 + 0) = g)) 0 cnt = ff (fun n => decide (kf n = K ∧ nf (n * 4 + 0) = g)) n k → ∀ (H : Heap) (locs : List Loc), fI G.1 g_cl (fA h sz) s.heap h H locs → ∀ ls : Array Slot, lv_has ls 4 [(0, .ref R), (1, .int (nI K)), (2, .int (nI g)), (3, .int (nI n))] → W p l e { frames := 1, cells := 0, slots := 0, locals := 22 } s m ([.ref R, .int (nI K), .int (nI g)] : List Value).toArray below meth c H locs 0 0 (MQ below (cQi G h sz (fun x h' => x = oN (ff (fun n => decide (kf n = K ∧ nf (n * 4 + 0) = g)) 0 cnt) ∧ h' = h)) ([.ref R, .int (nI K), .int (nI g)] : List Value).toArray s 0 0 (fA h sz)) (F0 m 2 ls []) := ih
      refine lv_iload_n hx hb d_RU_firstOfGoods_2 rfl (lv_at hl 3 rfl) ?_
      refine lv_aload_n hx hb d_RU_firstOfGoods_3 rfl (lv_at hl 0 rfl) ?_
      refine f_get (C := "DutyRules$Rules") (T := T_RU) (N := 3) hx hb (fun w q => hT w (s_RU w q)) hown hK hI g_R rfl 0 (by decide) (hT _ w_150) (fun _ q => q) rfl d_RU_firstOfGoods_4 ?_
      refine lv_icmp_ge (tgt := 38) hx hb d_RU_firstOfGoods_7 (by decide) (fun c_2 => absurd c_2 (fun q => absurd ((n_le (a := cnt) (b := n) (by omega) (by omega)).mp q) (by omega))) (fun c_2 => ?_)
      refine lv_aload_n hx hb d_RU_firstOfGoods_10 rfl (lv_at hl 0 rfl) ?_
      refine f_get (C := "DutyRules$Rules") (T := T_RU) (N := 3) hx hb (fun w q => hT w (s_RU w q)) hown hK hI g_R rfl 1 (by decide) (hT _ w_153) (fun _ q => q) rfl d_RU_firstOfGoods_11 ?_
      refine lv_iload_n hx hb d_RU_firstOfGoods_14 rfl (lv_at hl 3 rfl) ?_
      refine f_ialdn (k := n) (v := (nI (kf n))) hx hb hI g_a1 (fT.ofK hK (t0 := 0) rfl) (by omega) (by omega) rfl d_RU_firstOfGoods_15 ?_
      refine lv_iload_n hx hb d_RU_firstOfGoods_16 rfl (lv_at hl 1 rfl) ?_
      refine lv_icmp_ne (tgt := 32) hx hb d_RU_firstOfGoods_17 (by decide) (fun c_3 => ?_) (fun c_3 => ?_)
      · have c_3 : ¬ (kf n) = K := fun q => c_3 ((n_eq (a := (kf n)) (b := K) (by have := bkf n; omega) (by omega)).mpr q)
        refine lv_iinc (v := nI (n + 1)) (lv' := [(3, .int (nI (n + 1))), (0, .ref R), (1, .int (nI K)), (2, .int (nI g))]) hx hb d_RU_firstOfGoods_32 hl (k := 3) rfl (f_inc1 _) (by decide) rfl (fun ls hl => ?_)
        refine lv_goto (tgt := 2) hx hb d_RU_firstOfGoods_35 (by decide) ?_
        have hP : ¬ (fun n => decide (kf n = K ∧ nf (n * 4 + 0) = g)) n = true := by simp only [decide_eq_true_eq]; omega
        refine ih (n + 1) (by omega) (hff.trans ?_) _ _ hI ls ?_
        · show (if _ then _ else _) = _
          exact if_neg hP
        exact lv_sub hl [1, 2, 3, 0] rfl
      · have c_3 : (kf n) = K := (n_eq (a := (kf n)) (b := K) (by have := bkf n; omega) (by omega)).mp c_3
        refine lv_aload_n hx hb d_RU_firstOfGoods_20 rfl (lv_at hl 0 rfl) ?_
        refine lv_iload_n hx hb d_RU_firstOfGoods_21 rfl (lv_at hl 3 rfl) ?_
        refine lv_iconst (v := 0) hx hb d_RU_firstOfGoods_22 (by decide) ?_
        refine f_calli hI (f_runV C hI (c_RU_number l G h _ R cnt r r2 r3 kf nf n 0 hR (by omega) (by omega)) gm_RU_number w_490 w_491 w_489 g_R rfl rfl rfl hl.1 rfl (Nat.le_of_ble_eq_true rfl) ⟨Nat.le_of_ble_eq_true rfl, Nat.le_of_ble_eq_true rfl⟩ d_RU_firstOfGoods_23 ⟨Nat.le_of_ble_eq_true rfl, Nat.le_of_ble_eq_true rfl⟩) (fun r_4 h8 H9 locs hp9 hX9 hz9 hI => ?_)
        obtain ⟨rfl, e9⟩ := hp9
        rw [e9] at hI
        clear hX9 e9
        refine lv_iload_n hx hb d_RU_firstOfGoods_26 rfl (lv_at hl 2 rfl) ?_
        refine lv_icmp_ne (tgt := 32) hx hb d_RU_firstOfGoods_27 (by decide) (fun c_5 => ?_) (fun c_5 => ?_)
        · have c_5 : ¬ (nf (n * 4 + 0)) = g := fun q => c_5 ((n_eq (a := (nf (n * 4 + 0))) (b := g) (by have := bnf (n * 4 + 0); omega) (by omega)).mpr q)
          refine lv_iinc (v := nI (n + 1)) (lv' := [(3, .int (nI (n + 1))), (0, .ref R), (1, .int (nI K)), (2, .int (nI g))]) hx hb d_RU_firstOfGoods_32 hl (k := 3) rfl (f_inc1 _) (by decide) rfl (fun ls hl => ?_)
          refine lv_goto (tgt := 2) hx hb d_RU_firstOfGoods_35 (by decide) ?_
          have hP : ¬ (fun n => decide (kf n = K ∧ nf (n * 4 + 0) = g)) n = true := by simp only [decide_eq_true_eq]; omega
          refine ih (n + 1) (by omega) (hff.trans ?_) _ _ hI ls ?_
          · show (if _ then _ else _) = _
            exact if_neg hP
          exact lv_sub hl [1, 2, 3, 0] rfl
        · have c_5 : (nf (n * 4 + 0)) = g := (n_eq (a := (nf (n * 4 + 0))) (b := g) (by have := bnf (n * 4 + 0); omega) (by omega)).mp c_5
          refine lv_iload_n hx hb d_RU_firstOfGoods_30 rfl (lv_at hl 3 rfl) ?_
          exact f_iret C hr hI ⟨by rw [hff, show ff (fun n => decide (kf n = K ∧ nf (n * 4 + 0) = g)) n (k + 1) = some n from if_pos (by simp only [decide_eq_true_eq]; omega)]; rfl, rfl⟩ hX (Nat.le_refl _) (Nat.le_refl _) d_RU_firstOfGoods_31
  refine lv_iconst (v := 0) hx hb d_RU_firstOfGoods_0 (by decide) ?_
  refine lv_istore_n (lv' := [(3, .int 0), (0, .ref R), (1, .int (nI K)), (2, .int (nI g))]) hx hb d_RU_firstOfGoods_1 rfl hl (by decide) rfl (fun ls hl => ?_)
  refine J2 cnt 0 (by omega) rfl _ _ hI ls ?_
  exact lv_sub hl [1, 2, 3, 0] rfl
theorem gm_RU_firstRate : gM y_RU_firstRate b_RU_firstRate 4 (some .int) 2 := ⟨w_641, w_9, ⟨by decide, by decide⟩, by decide +kernel⟩
set_option maxHeartbeats 4000000 in
set_option maxRecDepth 100000 in
/-- RU_firstRate  -/
theorem c_RU_firstRate (l : Launch) (G : gG) (h : fH) (sz : Nat) (R cnt r r2 r3 : Nat) (kf nf : Nat → Nat) (hR : rU G h r r2 r3 R cnt kf nf) (g st : Nat) (bg : g < 2 ^ 31) (bst : st < 2 ^ 31) : cM l y_RU_firstRate b_RU_firstRate 4 (some .int) { frames := 1, cells := 0, slots := 0, locals := 22 } G [.ref R, .int (nI g), .int (nI st)] h sz (cQi G h sz (fun x h' => x = oN (ff (fun n => decide (kf n = 0 ∧ nf (n * 4 + 0) = g ∧ nf (n * 4 + 1) ≤ st ∧ st < nf (n * 4 + 2))) 0 cnt) ∧ h' = h)) := by
  refine f_start (by decide) (Nat.le_of_ble_eq_true rfl) ?_
  intro p e s m below meth c ls C hr hsz hI hl
  obtain ⟨hx, hb, hml, hown, hnm, hlk, hT, hG, hZ⟩ := id C
  have hK := hG.1
  have hX : fX h sz h := fX.rf
  have hl : lv_has ls 4 [(0, .ref R), (1, .int (nI g)), (2, .int (nI st))] := hl
  obtain ⟨a1, a2, g_R, g_a1, g_a2, bcnt, bkf, bnf⟩ := id hR
  have J2 : ∀ (k n : Nat), n + k = cnt → ff (fun n => decide (kf n = 0 ∧ nf (n * 4 + 0) = g ∧ nf (n * 4 + 1) ≤ st ∧ st < nf (n * 4 + 2))) 0 cnt = ff (fun n => decide (kf n = 0 ∧ nf (n * 4 + 0) = g ∧ nf (n * 4 + 1) ≤ st ∧ st < nf (n * 4 + 2))) n k → ∀ (H : Heap) (locs : List Loc), fI G.1 g_cl (fA h sz) s.heap h H locs → ∀ ls : Array Slot, lv_has ls 4 [(0, .ref R), (1, .int (nI g)), (2, .int (nI st)), (3, .int (nI n))] → W p l e { frames := 1, cells := 0, slots := 0, locals := 22 } s m ([.ref R, .int (nI g), .int (nI st)] : List Value).toArray below meth c H locs 0 0 (MQ below (cQi G h sz (fun x h' => x = oN (ff (fun n => decide (kf n = 0 ∧ nf (n * 4 + 0) = g ∧ nf (n * 4 + 1) ≤ st ∧ st < nf (n * 4 + 2))) 0 cnt) ∧ h' = h)) ([.ref R, .int (nI g), .int (nI st)] : List Value).toArray s 0 0 (fA h sz)) (F0 m 2 ls []) := by
    intro k
    induction k with
    | zero =>
      intro n hn hff H locs hI ls hl
      refine lv_iload_n hx hb d_RU_firstRate_2 rfl (lv_at hl 3 rfl) ?_
      refine lv_aload_n hx hb d_RU_firstRate_3 rfl (lv_at hl 0 rfl) ?_
      refine f_get (C := "DutyRules$Rules") (T := T_RU) (N := 3) hx hb (fun w q => hT w (s_RU w q)) hown hK hI g_R rfl 0 (by decide) (hT _ w_150) (fun _ q => q) rfl d_RU_firstRate_4 ?_
      refine lv_icmp_ge (tgt := 57) hx hb d_RU_firstRate_7 (by decide) (fun c_1 => ?_) (fun c_1 => absurd ((n_le (a := cnt) (b := n) (by omega) (by omega)).mpr (by omega)) c_1)
      refine lv_iconst (v := (-1)) hx hb d_RU_firstRate_57 (by decide) ?_
      exact f_iret C hr hI ⟨by rw [hff]; rfl, rfl⟩ hX (Nat.le_refl _) (Nat.le_refl _) d_RU_firstRate_58
    | succ k ih =>
      intro n hn hff H locs hI ls hl
      have ih : ∀ n : Nat, n + k = cnt → ff (fun n => decide (kf n = 0 ∧ nf (n * 4 + 0) = g ∧ nf (n * 4 + 1) ≤ st ∧ st < nf (n * 4 + 2))) 0 cnt = ff (fun n => decide (kf n = 0 ∧ nf (n * 4 + 0) = g ∧ nf (n * 4 + 1) ≤ st ∧ st < nf (n * 4 + 2))) n k → ∀ (H : Heap) (locs : List Loc), fI G.1 g_cl (fA h sz) s.heap h H locs → ∀ ls : Array Slot, lv_has ls 4 [(0, .ref R), (1, .int (nI g)), (2, .int (nI st)), (3, .int (nI n))] → W p l e { frames := 1, cells := 0, slots := 0, locals := 22 } s m ([.ref R, .int (nI g), .int (nI st)] : List Value).toArray below meth c H locs 0 0 (MQ below (cQi G h sz (fun x h' => x = oN (ff (fun n => decide (kf n = 0 ∧ nf (n * 4 + 0) = g ∧ nf (n * 4 + 1) ≤ st ∧ st < nf (n * 4 + 2))) 0 cnt) ∧ h' = h)) ([.ref R, .int (nI g), .int (nI st)] : List Value).toArray s 0 0 (fA h sz)) (F0 m 2 ls []) := ih
      refine lv_iload_n hx hb d_RU_firstRate_2 rfl (lv_at hl 3 rfl) ?_
      refine lv_aload_n hx hb d_RU_firstRate_3 rfl (lv_at hl 0 rfl) ?_
      refine f_get (C := "DutyRules$Rules") (T := T_RU) (N := 3) hx hb (fun w q => hT w (s_RU w q)) hown hK hI g_R rfl 0 (by decide) (hT _ w_150) (fun _ q => q) rfl d_RU_firstRate_4 ?_
      refine lv_icmp_ge (tgt := 57) hx hb d_RU_firstRate_7 (by decide) (fun c_2 => absurd c_2 (fun q => absurd ((n_le (a := cnt) (b := n) (by omega) (by omega)).mp q) (by omega))) (fun c_2 => ?_)
      refine lv_aload_n hx hb d_RU_firstRate_10 rfl (lv_at hl 0 rfl) ?_
      refine f_get (C := "DutyRules$Rules") (T := T_RU) (N := 3) hx hb (fun w q => hT w (s_RU w q)) hown hK hI g_R rfl 1 (by decide) (hT _ w_153) (fun _ q => q) rfl d_RU_firstRate_11 ?_
      refine lv_iload_n hx hb d_RU_firstRate_14 rfl (lv_at hl 3 rfl) ?_
      refine f_ialdn (k := n) (v := (nI (kf n))) hx hb hI g_a1 (fT.ofK hK (t0 := 0) rfl) (by omega) (by omega) rfl d_RU_firstRate_15 ?_
      refine lv_if_ne (tgt := 51) hx hb d_RU_firstRate_16 (by decide) (fun c_3 => ?_) (fun c_3 => ?_)
      · have c_3 : ¬ (kf n) = 0 := fun q => c_3 ((n_eq (a := (kf n)) (b := 0) (by have := bkf n; omega) (by omega)).mpr q)
        refine lv_iinc (v := nI (n + 1)) (lv' := [(3, .int (nI (n + 1))), (0, .ref R), (1, .int (nI g)), (2, .int (nI st))]) hx hb d_RU_firstRate_51 hl (k := 3) rfl (f_inc1 _) (by decide) rfl (fun ls hl => ?_)
        refine lv_goto (tgt := 2) hx hb d_RU_firstRate_54 (by decide) ?_
        have hP : ¬ (fun n => decide (kf n = 0 ∧ nf (n * 4 + 0) = g ∧ nf (n * 4 + 1) ≤ st ∧ st < nf (n * 4 + 2))) n = true := by simp only [decide_eq_true_eq]; omega
        refine ih (n + 1) (by omega) (hff.trans ?_) _ _ hI ls ?_
        · show (if _ then _ else _) = _
          exact if_neg hP
        exact lv_sub hl [1, 2, 3, 0] rfl
      · have c_3 : (kf n) = 0 := (n_eq (a := (kf n)) (b := 0) (by have := bkf n; omega) (by omega)).mp c_3
        refine lv_aload_n hx hb d_RU_firstRate_19 rfl (lv_at hl 0 rfl) ?_
        refine lv_iload_n hx hb d_RU_firstRate_20 rfl (lv_at hl 3 rfl) ?_
        refine lv_iconst (v := 0) hx hb d_RU_firstRate_21 (by decide) ?_
        refine f_calli hI (f_runV C hI (c_RU_number l G h _ R cnt r r2 r3 kf nf n 0 hR (by omega) (by omega)) gm_RU_number w_490 w_491 w_489 g_R rfl rfl rfl hl.1 rfl (Nat.le_of_ble_eq_true rfl) ⟨Nat.le_of_ble_eq_true rfl, Nat.le_of_ble_eq_true rfl⟩ d_RU_firstRate_22 ⟨Nat.le_of_ble_eq_true rfl, Nat.le_of_ble_eq_true rfl⟩) (fun r_4 h8 H9 locs hp9 hX9 hz9 hI => ?_)
        obtain ⟨rfl, e9⟩ := hp9
        rw [e9] at hI
        clear hX9 e9
        refine lv_iload_n hx hb d_RU_firstRate_25 rfl (lv_at hl 1 rfl) ?_
        refine lv_icmp_ne (tgt := 51) hx hb d_RU_firstRate_26 (by decide) (fun c_5 => ?_) (fun c_5 => ?_)
        · have c_5 : ¬ (nf (n * 4 + 0)) = g := fun q => c_5 ((n_eq (a := (nf (n * 4 + 0))) (b := g) (by have := bnf (n * 4 + 0); omega) (by omega)).mpr q)
          refine lv_iinc (v := nI (n + 1)) (lv' := [(3, .int (nI (n + 1))), (0, .ref R), (1, .int (nI g)), (2, .int (nI st))]) hx hb d_RU_firstRate_51 hl (k := 3) rfl (f_inc1 _) (by decide) rfl (fun ls hl => ?_)
          refine lv_goto (tgt := 2) hx hb d_RU_firstRate_54 (by decide) ?_
          have hP : ¬ (fun n => decide (kf n = 0 ∧ nf (n * 4 + 0) = g ∧ nf (n * 4 + 1) ≤ st ∧ st < nf (n * 4 + 2))) n = true := by simp only [decide_eq_true_eq]; omega
          refine ih (n + 1) (by omega) (hff.trans ?_) _ _ hI ls ?_
          · show (if _ then _ else _) = _
            exact if_neg hP
          exact lv_sub hl [1, 2, 3, 0] rfl
        · have c_5 : (nf (n * 4 + 0)) = g := (n_eq (a := (nf (n * 4 + 0))) (b := g) (by have := bnf (n * 4 + 0); omega) (by omega)).mp c_5
          refine lv_aload_n hx hb d_RU_firstRate_29 rfl (lv_at hl 0 rfl) ?_
          refine lv_iload_n hx hb d_RU_firstRate_30 rfl (lv_at hl 3 rfl) ?_
          refine lv_iconst (v := 1) hx hb d_RU_firstRate_31 (by decide) ?_
          refine f_calli hI (f_runV C hI (c_RU_number l G h _ R cnt r r2 r3 kf nf n 1 hR (by omega) (by omega)) gm_RU_number w_490 w_491 w_489 g_R rfl rfl rfl hl.1 rfl (Nat.le_of_ble_eq_true rfl) ⟨Nat.le_of_ble_eq_true rfl, Nat.le_of_ble_eq_true rfl⟩ d_RU_firstRate_32 ⟨Nat.le_of_ble_eq_true rfl, Nat.le_of_ble_eq_true rfl⟩) (fun r_6 h8 H9 locs hp9 hX9 hz9 hI => ?_)
          obtain ⟨rfl, e9⟩ := hp9
          rw [e9] at hI
          clear hX9 e9
          refine lv_iload_n hx hb d_RU_firstRate_35 rfl (lv_at hl 2 rfl) ?_
          refine lv_icmp_gt (tgt := 51) hx hb d_RU_firstRate_36 (by decide) (fun c_7 => ?_) (fun c_7 => ?_)
          · have c_7 : st < (nf (n * 4 + 1)) := (n_lt (a := st) (b := (nf (n * 4 + 1))) (by omega) (by have := bnf (n * 4 + 1); omega)).mp c_7
            refine lv_iinc (v := nI (n + 1)) (lv' := [(3, .int (nI (n + 1))), (0, .ref R), (1, .int (nI g)), (2, .int (nI st))]) hx hb d_RU_firstRate_51 hl (k := 3) rfl (f_inc1 _) (by decide) rfl (fun ls hl => ?_)
            refine lv_goto (tgt := 2) hx hb d_RU_firstRate_54 (by decide) ?_
            have hP : ¬ (fun n => decide (kf n = 0 ∧ nf (n * 4 + 0) = g ∧ nf (n * 4 + 1) ≤ st ∧ st < nf (n * 4 + 2))) n = true := by simp only [decide_eq_true_eq]; omega
            refine ih (n + 1) (by omega) (hff.trans ?_) _ _ hI ls ?_
            · show (if _ then _ else _) = _
              exact if_neg hP
            exact lv_sub hl [1, 2, 3, 0] rfl
          · have c_7 : ¬ st < (nf (n * 4 + 1)) := fun q => c_7 ((n_lt (a := st) (b := (nf (n * 4 + 1))) (by omega) (by have := bnf (n * 4 + 1); omega)).mpr q)
            refine lv_iload_n hx hb d_RU_firstRate_39 rfl (lv_at hl 2 rfl) ?_
            refine lv_aload_n hx hb d_RU_firstRate_40 rfl (lv_at hl 0 rfl) ?_
            refine lv_iload_n hx hb d_RU_firstRate_41 rfl (lv_at hl 3 rfl) ?_
            refine lv_iconst (v := 2) hx hb d_RU_firstRate_42 (by decide) ?_
            refine f_calli hI (f_runV C hI (c_RU_number l G h _ R cnt r r2 r3 kf nf n 2 hR (by omega) (by omega)) gm_RU_number w_490 w_491 w_489 g_R rfl rfl rfl hl.1 rfl (Nat.le_of_ble_eq_true rfl) ⟨Nat.le_of_ble_eq_true rfl, Nat.le_of_ble_eq_true rfl⟩ d_RU_firstRate_43 ⟨Nat.le_of_ble_eq_true rfl, Nat.le_of_ble_eq_true rfl⟩) (fun r_8 h8 H9 locs hp9 hX9 hz9 hI => ?_)
            obtain ⟨rfl, e9⟩ := hp9
            rw [e9] at hI
            clear hX9 e9
            refine lv_icmp_ge (tgt := 51) hx hb d_RU_firstRate_46 (by decide) (fun c_9 => ?_) (fun c_9 => ?_)
            · have c_9 : (nf (n * 4 + 2)) ≤ st := (n_le (a := (nf (n * 4 + 2))) (b := st) (by have := bnf (n * 4 + 2); omega) (by omega)).mp c_9
              refine lv_iinc (v := nI (n + 1)) (lv' := [(3, .int (nI (n + 1))), (0, .ref R), (1, .int (nI g)), (2, .int (nI st))]) hx hb d_RU_firstRate_51 hl (k := 3) rfl (f_inc1 _) (by decide) rfl (fun ls hl => ?_)
              refine lv_goto (tgt := 2) hx hb d_RU_firstRate_54 (by decide) ?_
              have hP : ¬ (fun n => decide (kf n = 0 ∧ nf (n * 4 + 0) = g ∧ nf (n * 4 + 1) ≤ st ∧ st < nf (n * 4 + 2))) n = true := by simp only [decide_eq_true_eq]; omega
              refine ih (n + 1) (by omega) (hff.trans ?_) _ _ hI ls ?_
              · show (if _ then _ else _) = _
                exact if_neg hP
              exact lv_sub hl [1, 2, 3, 0] rfl
            · have c_9 : ¬ (nf (n * 4 + 2)) ≤ st := fun q => c_9 ((n_le (a := (nf (n * 4 + 2))) (b := st) (by have := bnf (n * 4 + 2); omega) (by omega)).mpr q)
              refine lv_iload_n hx hb d_RU_firstRate_49 rfl (lv_at hl 3 rfl) ?_
              exact f_iret C hr hI ⟨by rw [hff, show ff (fun n => decide (kf n = 0 ∧ nf (n * 4 + 0) = g ∧ nf (n * 4 + 1) ≤ st ∧ st < nf (n * 4 + 2))) n (k + 1) = some n from if_pos (by simp only [decide_eq_true_eq]; omega)]; rfl, rfl⟩ hX (Nat.le_refl _) (Nat.le_refl _) d_RU_firstRate_50
  refine lv_iconst (v := 0) hx hb d_RU_firstRate_0 (by decide) ?_
  refine lv_istore_n (lv' := [(3, .int 0), (0, .ref R), (1, .int (nI g)), (2, .int (nI st))]) hx hb d_RU_firstRate_1 rfl hl (by decide) rfl (fun ls hl => ?_)
  refine J2 cnt 0 (by omega) rfl _ _ hI ls ?_
  exact lv_sub hl [1, 2, 3, 0] rfl
theorem gm_RU_mayBegin : gM y_RU_mayBegin b_RU_mayBegin 2 (some .boolean) 1 := ⟨w_459, w_9, ⟨by decide, by decide⟩, by decide +kernel⟩
set_option maxHeartbeats 4000000 in
set_option maxRecDepth 100000 in
/-- RU_mayBegin  -/
theorem c_RU_mayBegin (l : Launch) (G : gG) (h : fH) (sz : Nat) (R cnt r r2 r3 : Nat) (kf nf : Nat → Nat) (hR : rU G h r r2 r3 R cnt kf nf) (K : Nat) (bK : K < 6) : cM l y_RU_mayBegin b_RU_mayBegin 2 (some .boolean) { frames := 1, cells := 0, slots := 0, locals := 22 } G [.ref R, .int (nI K)] h sz (cQi G h sz (fun x h' => ((x = 1 ∧ (cnt < 40 ∧ ((K = 4 ∨ K = 5) → ff (fun n => decide (kf n = K)) 0 cnt = none))) ∨ (x = 0 ∧ ¬ (cnt < 40 ∧ ((K = 4 ∨ K = 5) → ff (fun n => decide (kf n = K)) 0 cnt = none)))) ∧ h' = h)) := by
  refine f_start (by decide) (Nat.le_of_ble_eq_true rfl) ?_
  intro p e s m below meth c ls C hr hsz hI hl
  obtain ⟨hx, hb, hml, hown, hnm, hlk, hT, hG, hZ⟩ := id C
  have hK := hG.1
  have hX : fX h sz h := fX.rf
  have hl : lv_has ls 2 [(0, .ref R), (1, .int (nI K))] := hl
  obtain ⟨a1, a2, g_R, g_a1, g_a2, bcnt, bkf, bnf⟩ := id hR
  refine lv_aload_n hx hb d_RU_mayBegin_0 rfl (lv_at hl 0 rfl) ?_
  refine f_get (C := "DutyRules$Rules") (T := T_RU) (N := 3) hx hb (fun w q => hT w (s_RU w q)) hown hK hI g_R rfl 0 (by decide) (hT _ w_150) (fun _ q => q) rfl d_RU_mayBegin_1 ?_
  refine lv_bipush (v := 40) hx hb d_RU_mayBegin_4 (by decide) ?_
  refine lv_icmp_lt (tgt := 11) hx hb d_RU_mayBegin_6 (by decide) (fun c_1 => ?_) (fun c_1 => ?_)
  · have c_1 : cnt < 40 := (n_lt (a := cnt) (b := 40) (by omega) (by omega)).mp c_1
    refine lv_iload_n hx hb d_RU_mayBegin_11 rfl (lv_at hl 1 rfl) ?_
    refine lv_iconst (v := 4) hx hb d_RU_mayBegin_12 (by decide) ?_
    refine lv_icmp_eq (tgt := 21) hx hb d_RU_mayBegin_13 (by decide) (fun c_2 => ?_) (fun c_2 => ?_)
    · have c_2 : K = 4 := (n_eq (a := K) (b := 4) (by omega) (by omega)).mp c_2
      refine lv_aload_n hx hb d_RU_mayBegin_21 rfl (lv_at hl 0 rfl) ?_
      refine lv_iload_n hx hb d_RU_mayBegin_22 rfl (lv_at hl 1 rfl) ?_
      refine f_calli hI (f_runV C hI (c_RU_firstOfKind l G h _ R cnt r r2 r3 kf nf hR K (by omega)) gm_RU_firstOfKind w_461 w_462 w_460 g_R rfl rfl rfl hl.1 rfl (Nat.le_of_ble_eq_true rfl) ⟨Nat.le_of_ble_eq_true rfl, Nat.le_of_ble_eq_true rfl⟩ d_RU_mayBegin_23 ⟨Nat.le_of_ble_eq_true rfl, Nat.le_of_ble_eq_true rfl⟩) (fun r_3 h8 H9 locs hp9 hX9 hz9 hI => ?_)
      obtain ⟨rfl, e9⟩ := hp9
      rw [e9] at hI
      clear hX9 e9
      rcases eF : ff (fun n => decide (kf n = K)) 0 cnt with _ | j
      · refine f_asi (show oN none = -1 from rfl) ?_
        refine lv_iconst (v := (-1)) hx hb d_RU_mayBegin_26 (by decide) ?_
        refine lv_icmp_ne (tgt := 34) hx hb d_RU_mayBegin_27 (by decide) (fun c_4 => absurd rfl c_4) (fun c_4 => ?_)
        refine lv_iconst (v := 1) hx hb d_RU_mayBegin_30 (by decide) ?_
        refine lv_goto (tgt := 35) hx hb d_RU_mayBegin_31 (by decide) ?_
        exact f_zret C hr rfl hI ⟨Or.inl ⟨rfl, by omega, fun q => rfl⟩, rfl⟩ hX (Nat.le_refl _) (Nat.le_refl _) d_RU_mayBegin_35
      · refine f_asi (show oN (some j) = nI j from rfl) ?_
        have hj := ff_in eF
        refine lv_iconst (v := (-1)) hx hb d_RU_mayBegin_26 (by decide) ?_
        refine lv_icmp_ne (tgt := 34) hx hb d_RU_mayBegin_27 (by decide) (fun c_5 => ?_) (fun c_5 => absurd c_5 (n_m1 (by omega)))
        refine lv_iconst (v := 0) hx hb d_RU_mayBegin_34 (by decide) ?_
        exact f_zret C hr rfl hI ⟨Or.inr ⟨rfl, fun q => by cases (q.2 (by omega))⟩, rfl⟩ hX (Nat.le_refl _) (Nat.le_refl _) d_RU_mayBegin_35
    · have c_2 : ¬ K = 4 := fun q => c_2 ((n_eq (a := K) (b := 4) (by omega) (by omega)).mpr q)
      refine lv_iload_n hx hb d_RU_mayBegin_16 rfl (lv_at hl 1 rfl) ?_
      refine lv_iconst (v := 5) hx hb d_RU_mayBegin_17 (by decide) ?_
      refine lv_icmp_ne (tgt := 30) hx hb d_RU_mayBegin_18 (by decide) (fun c_6 => ?_) (fun c_6 => ?_)
      · have c_6 : ¬ K = 5 := fun q => c_6 ((n_eq (a := K) (b := 5) (by omega) (by omega)).mpr q)
        refine lv_iconst (v := 1) hx hb d_RU_mayBegin_30 (by decide) ?_
        refine lv_goto (tgt := 35) hx hb d_RU_mayBegin_31 (by decide) ?_
        exact f_zret C hr rfl hI ⟨Or.inl ⟨rfl, by omega, fun q => by omega⟩, rfl⟩ hX (Nat.le_refl _) (Nat.le_refl _) d_RU_mayBegin_35
      · have c_6 : K = 5 := (n_eq (a := K) (b := 5) (by omega) (by omega)).mp c_6
        refine lv_aload_n hx hb d_RU_mayBegin_21 rfl (lv_at hl 0 rfl) ?_
        refine lv_iload_n hx hb d_RU_mayBegin_22 rfl (lv_at hl 1 rfl) ?_
        refine f_calli hI (f_runV C hI (c_RU_firstOfKind l G h _ R cnt r r2 r3 kf nf hR K (by omega)) gm_RU_firstOfKind w_461 w_462 w_460 g_R rfl rfl rfl hl.1 rfl (Nat.le_of_ble_eq_true rfl) ⟨Nat.le_of_ble_eq_true rfl, Nat.le_of_ble_eq_true rfl⟩ d_RU_mayBegin_23 ⟨Nat.le_of_ble_eq_true rfl, Nat.le_of_ble_eq_true rfl⟩) (fun r_7 h8 H9 locs hp9 hX9 hz9 hI => ?_)
        obtain ⟨rfl, e9⟩ := hp9
        rw [e9] at hI
        clear hX9 e9
        rcases eF : ff (fun n => decide (kf n = K)) 0 cnt with _ | j
        · refine f_asi (show oN none = -1 from rfl) ?_
          refine lv_iconst (v := (-1)) hx hb d_RU_mayBegin_26 (by decide) ?_
          refine lv_icmp_ne (tgt := 34) hx hb d_RU_mayBegin_27 (by decide) (fun c_8 => absurd rfl c_8) (fun c_8 => ?_)
          refine lv_iconst (v := 1) hx hb d_RU_mayBegin_30 (by decide) ?_
          refine lv_goto (tgt := 35) hx hb d_RU_mayBegin_31 (by decide) ?_
          exact f_zret C hr rfl hI ⟨Or.inl ⟨rfl, by omega, fun q => rfl⟩, rfl⟩ hX (Nat.le_refl _) (Nat.le_refl _) d_RU_mayBegin_35
        · refine f_asi (show oN (some j) = nI j from rfl) ?_
          have hj := ff_in eF
          refine lv_iconst (v := (-1)) hx hb d_RU_mayBegin_26 (by decide) ?_
          refine lv_icmp_ne (tgt := 34) hx hb d_RU_mayBegin_27 (by decide) (fun c_9 => ?_) (fun c_9 => absurd c_9 (n_m1 (by omega)))
          refine lv_iconst (v := 0) hx hb d_RU_mayBegin_34 (by decide) ?_
          exact f_zret C hr rfl hI ⟨Or.inr ⟨rfl, fun q => by cases (q.2 (by omega))⟩, rfl⟩ hX (Nat.le_refl _) (Nat.le_refl _) d_RU_mayBegin_35
  · have c_1 : ¬ cnt < 40 := fun q => c_1 ((n_lt (a := cnt) (b := 40) (by omega) (by omega)).mpr q)
    refine lv_iconst (v := 0) hx hb d_RU_mayBegin_9 (by decide) ?_
    exact f_zret C hr rfl hI ⟨Or.inr ⟨rfl, fun q => by omega⟩, rfl⟩ hX (Nat.le_refl _) (Nat.le_refl _) d_RU_mayBegin_10
theorem gm_RU_begin : gM y_RU_begin b_RU_begin 2 none 1 := ⟨w_467, w_9, ⟨by decide, by decide⟩, by decide +kernel⟩
set_option maxHeartbeats 4000000 in
set_option maxRecDepth 100000 in
/-- RU_begin  -/
theorem c_RU_begin (l : Launch) (G : gG) (h : fH) (sz : Nat) (R cnt : Nat) (kf nf : Nat → Nat) (hR : rU G h 28 29 30 R cnt kf nf) (K : Nat) (bK : K < 6) (bc : cnt < 40) : cM l y_RU_begin b_RU_begin 2 none { frames := 0, cells := 0, slots := 0, locals := 0 } G [.ref R, .int (nI K)] h sz (cQv G h sz (fun h' => rU G h' 28 29 30 R (cnt + 1) (va_up kf cnt K) nf ∧ fF (inR [28, 29]) h h')) := by
  refine f_start (by decide) (Nat.le_of_ble_eq_true rfl) ?_
  intro p e s m below meth c ls C hr hsz hI hl
  obtain ⟨hx, hb, hml, hown, hnm, hlk, hT, hG, hZ⟩ := id C
  have hK := hG.1
  have hX : fX h sz h := fX.rf
  have hl : lv_has ls 2 [(0, .ref R), (1, .int (nI K))] := hl
  obtain ⟨a1, a2, g_R, g_a1, g_a2, bcnt, bkf, bnf⟩ := id hR
  have hF : fF (inR [28, 29]) h h := fF.rf
  refine lv_aload_n hx hb d_RU_begin_0 rfl (lv_at hl 0 rfl) ?_
  refine f_get (C := "DutyRules$Rules") (T := T_RU) (N := 3) hx hb (fun w q => hT w (s_RU w q)) hown hK hI g_R rfl 0 (by decide) (hT _ w_150) (fun _ q => q) rfl d_RU_begin_1 ?_
  refine lv_aload_n hx hb d_RU_begin_4 rfl (lv_at hl 0 rfl) ?_
  refine f_get (C := "DutyRules$Rules") (T := T_RU) (N := 3) hx hb (fun w q => hT w (s_RU w q)) hown hK hI g_R rfl 1 (by decide) (hT _ w_153) (fun _ q => q) rfl d_RU_begin_5 ?_
  refine f_alen (v := nI 40) hx hb hI g_a1 (fT.ofK hK (t0 := 0) rfl) rfl d_RU_begin_8 ?_
  refine lv_icmp_ge (tgt := 32) hx hb d_RU_begin_9 (by decide) (fun c_1 => absurd c_1 (fun q => absurd ((n_le (a := 40) (b := cnt) (by omega) (by omega)).mp q) (by omega))) (fun c_1 => ?_)
  refine lv_aload_n hx hb d_RU_begin_12 rfl (lv_at hl 0 rfl) ?_
  refine f_get (C := "DutyRules$Rules") (T := T_RU) (N := 3) hx hb (fun w q => hT w (s_RU w q)) hown hK hI g_R rfl 1 (by decide) (hT _ w_153) (fun _ q => q) rfl d_RU_begin_13 ?_
  refine lv_aload_n hx hb d_RU_begin_16 rfl (lv_at hl 0 rfl) ?_
  refine f_get (C := "DutyRules$Rules") (T := T_RU) (N := 3) hx hb (fun w q => hT w (s_RU w q)) hown hK hI g_R rfl 0 (by decide) (hT _ w_150) (fun _ q => q) rfl d_RU_begin_17 ?_
  refine lv_iload_n hx hb d_RU_begin_20 rfl (lv_at hl 1 rfl) ?_
  refine f_iastn (k := cnt) (f' := (fun i => nI (va_up kf cnt K i))) hx hb hI g_a1 (by decide) (fT.ofK hK (t0 := 0) rfl) (by omega) (by omega) (up_i kf cnt K) d_RU_begin_21 (fun H locs hI => ?_)
  generalize eh_2 : fU h a1 (29, 0, .inl ((G.2.1 0), 40, .inl (fun i => nI (va_up kf cnt K i)))) = h_2 at hI
  have hX := hX.set (e := .inl ((G.2.1 0), 40, .inl (fun i => nI (va_up kf cnt K i)))) g_a1 (by decide); rw [eh_2] at hX
  have hF := hF.set (e := .inl ((G.2.1 0), 40, .inl (fun i => nI (va_up kf cnt K i)))) g_a1 (by decide); rw [eh_2] at hF
  have g_R : h_2 R = some (28, 0, .inr (6, [.int (nI cnt), .ref a1, .ref a2])) := (congrFun eh_2 R).symm.trans (fU_keep g_R (f_neR g_R g_a1 (by decide)))
  have g_a2 : h_2 a2 = some (30, 0, .inl ((G.2.1 0), 160, .inl (fun i => nI (nf i)))) := (congrFun eh_2 a2).symm.trans (fU_keep g_a2 (f_neR g_a2 g_a1 (by decide)))
  have g_a1 : h_2 a1 = some (29, 0, .inl ((G.2.1 0), 40, .inl (fun i => nI (va_up kf cnt K i)))) := (congrFun eh_2 a1).symm.trans (fU_self _ _ _)
  refine lv_aload_n hx hb d_RU_begin_22 rfl (lv_at hl 0 rfl) ?_
  refine lv_dup hx hb d_RU_begin_23 rfl ?_
  refine f_get (C := "DutyRules$Rules") (T := T_RU) (N := 3) hx hb (fun w q => hT w (s_RU w q)) hown hK hI g_R rfl 0 (by decide) (hT _ w_150) (fun _ q => q) rfl d_RU_begin_24 ?_
  refine lv_iconst (v := 1) hx hb d_RU_begin_27 (by decide) ?_
  refine lv_iadd hx hb d_RU_begin_28 ?_
  refine f_asi (nI_add cnt 1) ?_
  refine f_put (C := "DutyRules$Rules") (T := T_RU) (N := 3) (fs' := [.int (nI (cnt + 1)), .ref a1, .ref a2]) (v := .int (nI (cnt + 1))) hx hb (fun w q => hT w (s_RU w q)) t_RU k_RU n_RU hown hK hI g_R (by decide) rfl 0 (by decide) (hT _ w_150) (fun _ q => q) rfl rfl rfl (Nat.le_of_ble_eq_true rfl) rfl d_RU_begin_29 (fun H locs hI => ?_)
  generalize eh_3 : fU h_2 R (28, 0, .inr (6, [.int (nI (cnt + 1)), .ref a1, .ref a2])) = h_3 at hI
  have hX := hX.set (e := .inr (6, [.int (nI (cnt + 1)), .ref a1, .ref a2])) g_R (by decide); rw [eh_3] at hX
  have hF := hF.set (e := .inr (6, [.int (nI (cnt + 1)), .ref a1, .ref a2])) g_R (by decide); rw [eh_3] at hF
  have g_a1 : h_3 a1 = some (29, 0, .inl ((G.2.1 0), 40, .inl (fun i => nI (va_up kf cnt K i)))) := (congrFun eh_3 a1).symm.trans (fU_keep g_a1 (f_neR g_a1 g_R (by decide)))
  have g_a2 : h_3 a2 = some (30, 0, .inl ((G.2.1 0), 160, .inl (fun i => nI (nf i)))) := (congrFun eh_3 a2).symm.trans (fU_keep g_a2 (f_neR g_a2 g_R (by decide)))
  have g_R : h_3 R = some (28, 0, .inr (6, [.int (nI (cnt + 1)), .ref a1, .ref a2])) := (congrFun eh_3 R).symm.trans (fU_self _ _ _)
  exact f_vret C hr hI ⟨⟨a1, a2, g_R, g_a1, g_a2, by omega, fun i => by unfold va_up; split <;> first | omega | exact bkf i, bnf⟩, hF⟩ hX (Nat.le_refl _) (Nat.le_refl _) d_RU_begin_32
theorem gm_RU_put : gM y_RU_put b_RU_put 4 (some .boolean) 2 := ⟨w_488, w_9, ⟨by decide, by decide⟩, by decide +kernel⟩
set_option maxHeartbeats 4000000 in
set_option maxRecDepth 100000 in
/-- RU_put  -/
theorem c_RU_put (l : Launch) (G : gG) (h : fH) (sz : Nat) (R cnt : Nat) (kf nf : Nat → Nat) (hR : rU G h 28 29 30 R cnt kf nf) (k v : Nat) (bc : 1 ≤ cnt) (bk : k < 4) (bv : v ≤ 100000000) : cM l y_RU_put b_RU_put 4 (some .boolean) { frames := 1, cells := 0, slots := 0, locals := 22 } G [.ref R, .int (nI k), .int (nI v)] h sz (cQi G h sz (fun x h' => (x = 0 ∧ (kf (cnt - 1) = 0 ∧ k = 2 ∧ v ≤ nf ((cnt - 1) * 4 + 1)) ∧ h' = h) ∨ (x = 1 ∧ ¬ (kf (cnt - 1) = 0 ∧ k = 2 ∧ v ≤ nf ((cnt - 1) * 4 + 1)) ∧ rU G h' 28 29 30 R cnt kf (va_up nf ((cnt - 1) * 4 + k) v) ∧ fF (inR [30]) h h'))) := by
  refine f_start (by decide) (Nat.le_of_ble_eq_true rfl) ?_
  intro p e s m below meth c ls C hr hsz hI hl
  obtain ⟨hx, hb, hml, hown, hnm, hlk, hT, hG, hZ⟩ := id C
  have hK := hG.1
  have hX : fX h sz h := fX.rf
  have hl : lv_has ls 4 [(0, .ref R), (1, .int (nI k)), (2, .int (nI v))] := hl
  obtain ⟨a1, a2, g_R, g_a1, g_a2, bcnt, bkf, bnf⟩ := id hR
  have hF : fF (inR [30]) h h := fF.rf
  refine lv_aload_n hx hb d_RU_put_0 rfl (lv_at hl 0 rfl) ?_
  refine f_get (C := "DutyRules$Rules") (T := T_RU) (N := 3) hx hb (fun w q => hT w (s_RU w q)) hown hK hI g_R rfl 0 (by decide) (hT _ w_150) (fun _ q => q) rfl d_RU_put_1 ?_
  refine lv_iconst (v := 1) hx hb d_RU_put_4 (by decide) ?_
  refine lv_isub hx hb d_RU_put_5 ?_
  refine f_asi (pk_sub (a := cnt) (b := 1) (by omega)) ?_
  refine lv_istore_n (lv' := [(3, .int (nI (cnt - 1))), (0, .ref R), (1, .int (nI k)), (2, .int (nI v))]) hx hb d_RU_put_6 rfl hl (by decide) rfl (fun ls hl => ?_)
  refine lv_iload_n hx hb d_RU_put_7 rfl (lv_at hl 0 rfl) ?_
  refine lv_if_lt (tgt := 20) hx hb d_RU_put_8 (by decide) (fun c_1 => absurd c_1 (nI_pos (by omega))) (fun c_1 => ?_)
  refine lv_iload_n hx hb d_RU_put_11 rfl (lv_at hl 2 rfl) ?_
  refine lv_if_lt (tgt := 20) hx hb d_RU_put_12 (by decide) (fun c_2 => absurd c_2 (nI_pos (by omega))) (fun c_2 => ?_)
  refine lv_iload_n hx hb d_RU_put_15 rfl (lv_at hl 2 rfl) ?_
  refine lv_iconst (v := 4) hx hb d_RU_put_16 (by decide) ?_
  refine lv_icmp_lt (tgt := 22) hx hb d_RU_put_17 (by decide) (fun c_3 => ?_) (fun c_3 => absurd ((n_lt (a := k) (b := 4) (by omega) (by omega)).mpr (by omega)) c_3)
  refine lv_aload_n hx hb d_RU_put_22 rfl (lv_at hl 1 rfl) ?_
  refine f_get (C := "DutyRules$Rules") (T := T_RU) (N := 3) hx hb (fun w q => hT w (s_RU w q)) hown hK hI g_R rfl 1 (by decide) (hT _ w_153) (fun _ q => q) rfl d_RU_put_23 ?_
  refine lv_iload_n hx hb d_RU_put_26 rfl (lv_at hl 0 rfl) ?_
  refine f_ialdn (k := (cnt - 1)) (v := (nI (kf (cnt - 1)))) hx hb hI g_a1 (fT.ofK hK (t0 := 0) rfl) (by omega) (by omega) rfl d_RU_put_27 ?_
  refine lv_if_ne (tgt := 48) hx hb d_RU_put_28 (by decide) (fun c_4 => ?_) (fun c_4 => ?_)
  · have c_4 : ¬ (kf (cnt - 1)) = 0 := fun q => c_4 ((n_eq (a := (kf (cnt - 1))) (b := 0) (by have := bkf (cnt - 1); omega) (by omega)).mpr q)
    refine lv_aload_n hx hb d_RU_put_48 rfl (lv_at hl 1 rfl) ?_
    refine f_get (C := "DutyRules$Rules") (T := T_RU) (N := 3) hx hb (fun w q => hT w (s_RU w q)) hown hK hI g_R rfl 2 (by decide) (hT _ w_154) (fun _ q => q) rfl d_RU_put_49 ?_
    refine lv_iload_n hx hb d_RU_put_52 rfl (lv_at hl 0 rfl) ?_
    refine lv_iconst (v := 4) hx hb d_RU_put_53 (by decide) ?_
    refine lv_imul hx hb d_RU_put_54 ?_
    refine f_asi (pk_mul (cnt - 1) 4) ?_
    refine lv_iload_n hx hb d_RU_put_55 rfl (lv_at hl 2 rfl) ?_
    refine lv_iadd hx hb d_RU_put_56 ?_
    refine f_asi (nI_add ((cnt - 1) * 4) k) ?_
    refine lv_iload_n hx hb d_RU_put_57 rfl (lv_at hl 3 rfl) ?_
    refine f_iastn (k := (((cnt - 1) * 4) + k)) (f' := (fun i => nI (va_up nf (((cnt - 1) * 4) + k) v i))) hx hb hI g_a2 (by decide) (fT.ofK hK (t0 := 0) rfl) (by omega) (by omega) (up_i nf (((cnt - 1) * 4) + k) v) d_RU_put_58 (fun H locs hI => ?_)
    generalize eh_5 : fU h a2 (30, 0, .inl ((G.2.1 0), 160, .inl (fun i => nI (va_up nf (((cnt - 1) * 4) + k) v i)))) = h_5 at hI
    have hX := hX.set (e := .inl ((G.2.1 0), 160, .inl (fun i => nI (va_up nf (((cnt - 1) * 4) + k) v i)))) g_a2 (by decide); rw [eh_5] at hX
    have hF := hF.set (e := .inl ((G.2.1 0), 160, .inl (fun i => nI (va_up nf (((cnt - 1) * 4) + k) v i)))) g_a2 (by decide); rw [eh_5] at hF
    have g_R : h_5 R = some (28, 0, .inr (6, [.int (nI cnt), .ref a1, .ref a2])) := (congrFun eh_5 R).symm.trans (fU_keep g_R (f_neR g_R g_a2 (by decide)))
    have g_a1 : h_5 a1 = some (29, 0, .inl ((G.2.1 0), 40, .inl (fun i => nI (kf i)))) := (congrFun eh_5 a1).symm.trans (fU_keep g_a1 (f_neR g_a1 g_a2 (by decide)))
    have g_a2 : h_5 a2 = some (30, 0, .inl ((G.2.1 0), 160, .inl (fun i => nI (va_up nf (((cnt - 1) * 4) + k) v i)))) := (congrFun eh_5 a2).symm.trans (fU_self _ _ _)
    refine lv_iconst (v := 1) hx hb d_RU_put_59 (by decide) ?_
    exact f_zret C hr rfl hI (Or.inr ⟨rfl, by omega, ⟨a1, a2, g_R, g_a1, g_a2, bcnt, bkf, fun i => by unfold va_up; split <;> first | omega | exact bnf i⟩, hF⟩) hX (Nat.le_refl _) (Nat.le_refl _) d_RU_put_60
  · have c_4 : (kf (cnt - 1)) = 0 := (n_eq (a := (kf (cnt - 1))) (b := 0) (by have := bkf (cnt - 1); omega) (by omega)).mp c_4
    refine lv_iload_n hx hb d_RU_put_31 rfl (lv_at hl 2 rfl) ?_
    refine lv_iconst (v := 2) hx hb d_RU_put_32 (by decide) ?_
    refine lv_icmp_ne (tgt := 48) hx hb d_RU_put_33 (by decide) (fun c_6 => ?_) (fun c_6 => ?_)
    · have c_6 : ¬ k = 2 := fun q => c_6 ((n_eq (a := k) (b := 2) (by omega) (by omega)).mpr q)
      refine lv_aload_n hx hb d_RU_put_48 rfl (lv_at hl 1 rfl) ?_
      refine f_get (C := "DutyRules$Rules") (T := T_RU) (N := 3) hx hb (fun w q => hT w (s_RU w q)) hown hK hI g_R rfl 2 (by decide) (hT _ w_154) (fun _ q => q) rfl d_RU_put_49 ?_
      refine lv_iload_n hx hb d_RU_put_52 rfl (lv_at hl 0 rfl) ?_
      refine lv_iconst (v := 4) hx hb d_RU_put_53 (by decide) ?_
      refine lv_imul hx hb d_RU_put_54 ?_
      refine f_asi (pk_mul (cnt - 1) 4) ?_
      refine lv_iload_n hx hb d_RU_put_55 rfl (lv_at hl 2 rfl) ?_
      refine lv_iadd hx hb d_RU_put_56 ?_
      refine f_asi (nI_add ((cnt - 1) * 4) k) ?_
      refine lv_iload_n hx hb d_RU_put_57 rfl (lv_at hl 3 rfl) ?_
      refine f_iastn (k := (((cnt - 1) * 4) + k)) (f' := (fun i => nI (va_up nf (((cnt - 1) * 4) + k) v i))) hx hb hI g_a2 (by decide) (fT.ofK hK (t0 := 0) rfl) (by omega) (by omega) (up_i nf (((cnt - 1) * 4) + k) v) d_RU_put_58 (fun H locs hI => ?_)
      generalize eh_7 : fU h a2 (30, 0, .inl ((G.2.1 0), 160, .inl (fun i => nI (va_up nf (((cnt - 1) * 4) + k) v i)))) = h_7 at hI
      have hX := hX.set (e := .inl ((G.2.1 0), 160, .inl (fun i => nI (va_up nf (((cnt - 1) * 4) + k) v i)))) g_a2 (by decide); rw [eh_7] at hX
      have hF := hF.set (e := .inl ((G.2.1 0), 160, .inl (fun i => nI (va_up nf (((cnt - 1) * 4) + k) v i)))) g_a2 (by decide); rw [eh_7] at hF
      have g_R : h_7 R = some (28, 0, .inr (6, [.int (nI cnt), .ref a1, .ref a2])) := (congrFun eh_7 R).symm.trans (fU_keep g_R (f_neR g_R g_a2 (by decide)))
      have g_a1 : h_7 a1 = some (29, 0, .inl ((G.2.1 0), 40, .inl (fun i => nI (kf i)))) := (congrFun eh_7 a1).symm.trans (fU_keep g_a1 (f_neR g_a1 g_a2 (by decide)))
      have g_a2 : h_7 a2 = some (30, 0, .inl ((G.2.1 0), 160, .inl (fun i => nI (va_up nf (((cnt - 1) * 4) + k) v i)))) := (congrFun eh_7 a2).symm.trans (fU_self _ _ _)
      refine lv_iconst (v := 1) hx hb d_RU_put_59 (by decide) ?_
      exact f_zret C hr rfl hI (Or.inr ⟨rfl, by omega, ⟨a1, a2, g_R, g_a1, g_a2, bcnt, bkf, fun i => by unfold va_up; split <;> first | omega | exact bnf i⟩, hF⟩) hX (Nat.le_refl _) (Nat.le_refl _) d_RU_put_60
    · have c_6 : k = 2 := (n_eq (a := k) (b := 2) (by omega) (by omega)).mp c_6
      refine lv_iload_n hx hb d_RU_put_36 rfl (lv_at hl 3 rfl) ?_
      refine lv_aload_n hx hb d_RU_put_37 rfl (lv_at hl 1 rfl) ?_
      refine lv_iload_n hx hb d_RU_put_38 rfl (lv_at hl 0 rfl) ?_
      refine lv_iconst (v := 1) hx hb d_RU_put_39 (by decide) ?_
      refine f_calli hI (f_runV C hI (c_RU_number l G h _ R cnt 28 29 30 kf nf (cnt - 1) 1 hR (by omega) (by decide)) gm_RU_number w_490 w_491 w_489 g_R rfl rfl rfl hl.1 rfl (Nat.le_of_ble_eq_true rfl) ⟨Nat.le_of_ble_eq_true rfl, Nat.le_of_ble_eq_true rfl⟩ d_RU_put_40 ⟨Nat.le_of_ble_eq_true rfl, Nat.le_of_ble_eq_true rfl⟩) (fun r_8 h8 H9 locs hp9 hX9 hz9 hI => ?_)
      obtain ⟨rfl, e9⟩ := hp9
      rw [e9] at hI
      clear hX9 e9
      refine lv_icmp_gt (tgt := 48) hx hb d_RU_put_43 (by decide) (fun c_9 => ?_) (fun c_9 => ?_)
      · have c_9 : (nf ((cnt - 1) * 4 + 1)) < v := (n_lt (a := (nf ((cnt - 1) * 4 + 1))) (b := v) (by have := bnf ((cnt - 1) * 4 + 1); omega) (by omega)).mp c_9
        refine lv_aload_n hx hb d_RU_put_48 rfl (lv_at hl 1 rfl) ?_
        refine f_get (C := "DutyRules$Rules") (T := T_RU) (N := 3) hx hb (fun w q => hT w (s_RU w q)) hown hK hI g_R rfl 2 (by decide) (hT _ w_154) (fun _ q => q) rfl d_RU_put_49 ?_
        refine lv_iload_n hx hb d_RU_put_52 rfl (lv_at hl 0 rfl) ?_
        refine lv_iconst (v := 4) hx hb d_RU_put_53 (by decide) ?_
        refine lv_imul hx hb d_RU_put_54 ?_
        refine f_asi (pk_mul (cnt - 1) 4) ?_
        refine lv_iload_n hx hb d_RU_put_55 rfl (lv_at hl 2 rfl) ?_
        refine lv_iadd hx hb d_RU_put_56 ?_
        refine f_asi (nI_add ((cnt - 1) * 4) k) ?_
        refine lv_iload_n hx hb d_RU_put_57 rfl (lv_at hl 3 rfl) ?_
        refine f_iastn (k := (((cnt - 1) * 4) + k)) (f' := (fun i => nI (va_up nf (((cnt - 1) * 4) + k) v i))) hx hb hI g_a2 (by decide) (fT.ofK hK (t0 := 0) rfl) (by omega) (by omega) (up_i nf (((cnt - 1) * 4) + k) v) d_RU_put_58 (fun H locs hI => ?_)
        generalize eh_10 : fU h a2 (30, 0, .inl ((G.2.1 0), 160, .inl (fun i => nI (va_up nf (((cnt - 1) * 4) + k) v i)))) = h_10 at hI
        have hX := hX.set (e := .inl ((G.2.1 0), 160, .inl (fun i => nI (va_up nf (((cnt - 1) * 4) + k) v i)))) g_a2 (by decide); rw [eh_10] at hX
        have hF := hF.set (e := .inl ((G.2.1 0), 160, .inl (fun i => nI (va_up nf (((cnt - 1) * 4) + k) v i)))) g_a2 (by decide); rw [eh_10] at hF
        have g_R : h_10 R = some (28, 0, .inr (6, [.int (nI cnt), .ref a1, .ref a2])) := (congrFun eh_10 R).symm.trans (fU_keep g_R (f_neR g_R g_a2 (by decide)))
        have g_a1 : h_10 a1 = some (29, 0, .inl ((G.2.1 0), 40, .inl (fun i => nI (kf i)))) := (congrFun eh_10 a1).symm.trans (fU_keep g_a1 (f_neR g_a1 g_a2 (by decide)))
        have g_a2 : h_10 a2 = some (30, 0, .inl ((G.2.1 0), 160, .inl (fun i => nI (va_up nf (((cnt - 1) * 4) + k) v i)))) := (congrFun eh_10 a2).symm.trans (fU_self _ _ _)
        refine lv_iconst (v := 1) hx hb d_RU_put_59 (by decide) ?_
        exact f_zret C hr rfl hI (Or.inr ⟨rfl, by omega, ⟨a1, a2, g_R, g_a1, g_a2, bcnt, bkf, fun i => by unfold va_up; split <;> first | omega | exact bnf i⟩, hF⟩) hX (Nat.le_refl _) (Nat.le_refl _) d_RU_put_60
      · have c_9 : ¬ (nf ((cnt - 1) * 4 + 1)) < v := fun q => c_9 ((n_lt (a := (nf ((cnt - 1) * 4 + 1))) (b := v) (by have := bnf ((cnt - 1) * 4 + 1); omega) (by omega)).mpr q)
        refine lv_iconst (v := 0) hx hb d_RU_put_46 (by decide) ?_
        exact f_zret C hr rfl hI (Or.inl ⟨rfl, by omega, rfl⟩) hX (Nat.le_refl _) (Nat.le_refl _) d_RU_put_47
theorem gm_RU_init : gM y_RU_init b_RU_init 1 none 0 := ⟨w_148, w_9, ⟨by decide, by decide⟩, by decide +kernel⟩
set_option maxHeartbeats 4000000 in
set_option maxRecDepth 100000 in
/-- RU_init  -/
theorem c_RU_init (l : Launch) (G : gG) (h : fH) (sz : Nat) (R : Nat) (g_R : h R = some (28, 0, .inr (6, [.int 0, .null, .null]))) : cM l y_RU_init b_RU_init 1 none { frames := 1, cells := 2, slots := 200, locals := 20 } G [.ref R] h sz (cQv G h sz (fun h' => rU G h' 28 29 30 R 0 (fun _ => 0) (fun _ => 0) ∧ fF (inR [28]) h h')) := by
  refine f_start (by decide) (Nat.le_of_ble_eq_true rfl) ?_
  intro p e s m below meth c ls C hr hsz hI hl
  obtain ⟨hx, hb, hml, hown, hnm, hlk, hT, hG, hZ⟩ := id C
  have hK := hG.1
  have hX : fX h sz h := fX.rf
  have hl : lv_has ls 1 [(0, .ref R)] := hl
  have hF : fF (inR [28]) h h := fF.rf
  refine lv_aload_n hx hb d_RU_init_0 rfl (lv_at hl 0 rfl) ?_
  refine W.objInit hx hb hown (hT _ w_149) (hT _ w_28) (hT _ w_29) rfl (by rw [hml]; exact hl.1) rfl d_RU_init_1 (Nat.le_of_ble_eq_true rfl) (Nat.le_of_ble_eq_true rfl) ?_
  refine W.eq (g2 := F0 m 4 ls []) rfl ?_
  refine lv_aload_n hx hb d_RU_init_4 rfl (lv_at hl 0 rfl) ?_
  refine lv_iconst (v := 0) hx hb d_RU_init_5 (by decide) ?_
  refine f_put (C := "DutyRules$Rules") (T := T_RU) (N := 3) (fs' := [.int 0, .null, .null]) (v := .int 0) hx hb (fun w q => hT w (s_RU w q)) t_RU k_RU n_RU hown hK hI g_R (by decide) rfl 0 (by decide) (hT _ w_150) (fun _ q => q) rfl rfl rfl (Nat.le_of_ble_eq_true rfl) rfl d_RU_init_6 (fun H locs hI => ?_)
  generalize eh_1 : fU h R (28, 0, .inr (6, [.int 0, .null, .null])) = h_1 at hI
  have hX := hX.set (e := .inr (6, [.int 0, .null, .null])) g_R (by decide); rw [eh_1] at hX
  have hF := hF.set (e := .inr (6, [.int 0, .null, .null])) g_R (by decide); rw [eh_1] at hF
  have g_R : h_1 R = some (28, 0, .inr (6, [.int 0, .null, .null])) := (congrFun eh_1 R).symm.trans (fU_self _ _ _)
  refine lv_aload_n hx hb d_RU_init_9 rfl (lv_at hl 0 rfl) ?_
  refine lv_bipush (v := 40) hx hb d_RU_init_10 (by decide) ?_
  have hzN := hI.2.2.2.1
  refine f_newa (atype := .int) (a0 := (40, .inl (fun _ => 0))) (cA := (G.2.1 0)) hx hb (hT _ w_81) rfl hI (hK.2 0 _ rfl).2 rfl (by decide) rfl (by decide) 29 0 (Nat.le_of_ble_eq_true rfl) (Nat.le_of_ble_eq_true rfl) d_RU_init_12 (fun q_2 H eq_2 zq_2 nq_2 hI => ?_)
  generalize eh_3 : fU h_1 q_2 (29, 0, .inl ((G.2.1 0), 40, .inl (fun _ => 0))) = h_3 at hI
  have hX := hX.new (e := .inl ((G.2.1 0), 40, .inl (fun _ => 0))) (r := 29) (o := 0) nq_2 (by omega); rw [eh_3] at hX
  have hF := hF.new (c := (29, 0, .inl ((G.2.1 0), 40, .inl (fun _ => 0)))) nq_2; rw [eh_3] at hF
  have g_R : h_3 R = some (28, 0, .inr (6, [.int 0, .null, .null])) := (congrFun eh_3 R).symm.trans (fU_keep g_R (f_neN g_R nq_2))
  have g_q_2 : h_3 q_2 = some (29, 0, .inl ((G.2.1 0), 40, .inl (fun _ => 0))) := (congrFun eh_3 q_2).symm.trans (fU_self _ _ _)
  refine f_putF (C := "DutyRules$Rules") (T := T_RU) (N := 3) (fs' := [.int 0, .ref q_2, .null]) (v := .ref q_2) hx hb (fun w q => hT w (s_RU w q)) t_RU k_RU n_RU hown hK hI g_R (by decide) rfl 1 (by decide) (hT _ w_153) (fun _ q => q) rfl hnm rfl rfl rfl (Nat.le_of_ble_eq_true rfl) rfl d_RU_init_14 (fun H locs hI => ?_)
  generalize eh_4 : fU h_3 R (28, 0, .inr (6, [.int 0, .ref q_2, .null])) = h_4 at hI
  have hX := hX.set (e := .inr (6, [.int 0, .ref q_2, .null])) g_R (by decide); rw [eh_4] at hX
  have hF := hF.set (e := .inr (6, [.int 0, .ref q_2, .null])) g_R (by decide); rw [eh_4] at hF
  have g_q_2 : h_4 q_2 = some (29, 0, .inl ((G.2.1 0), 40, .inl (fun _ => 0))) := (congrFun eh_4 q_2).symm.trans (fU_keep g_q_2 (f_neR g_q_2 g_R (by decide)))
  have g_R : h_4 R = some (28, 0, .inr (6, [.int 0, .ref q_2, .null])) := (congrFun eh_4 R).symm.trans (fU_self _ _ _)
  refine lv_aload_n hx hb d_RU_init_17 rfl (lv_at hl 0 rfl) ?_
  refine lv_sipush (v := 160) hx hb d_RU_init_18 (by decide) ?_
  have hzN := hI.2.2.2.1
  refine f_newa (atype := .int) (a0 := (160, .inl (fun _ => 0))) (cA := (G.2.1 0)) hx hb (hT _ w_81) rfl hI (hK.2 0 _ rfl).2 rfl (by decide) rfl (by decide) 30 0 (Nat.le_of_ble_eq_true rfl) (Nat.le_of_ble_eq_true rfl) d_RU_init_21 (fun q_5 H eq_5 zq_5 nq_5 hI => ?_)
  generalize eh_6 : fU h_4 q_5 (30, 0, .inl ((G.2.1 0), 160, .inl (fun _ => 0))) = h_6 at hI
  have hX := hX.new (e := .inl ((G.2.1 0), 160, .inl (fun _ => 0))) (r := 30) (o := 0) nq_5 (by omega); rw [eh_6] at hX
  have hF := hF.new (c := (30, 0, .inl ((G.2.1 0), 160, .inl (fun _ => 0)))) nq_5; rw [eh_6] at hF
  have g_R : h_6 R = some (28, 0, .inr (6, [.int 0, .ref q_2, .null])) := (congrFun eh_6 R).symm.trans (fU_keep g_R (f_neN g_R nq_5))
  have g_q_2 : h_6 q_2 = some (29, 0, .inl ((G.2.1 0), 40, .inl (fun _ => 0))) := (congrFun eh_6 q_2).symm.trans (fU_keep g_q_2 (f_neN g_q_2 nq_5))
  have g_q_5 : h_6 q_5 = some (30, 0, .inl ((G.2.1 0), 160, .inl (fun _ => 0))) := (congrFun eh_6 q_5).symm.trans (fU_self _ _ _)
  refine f_putF (C := "DutyRules$Rules") (T := T_RU) (N := 3) (fs' := [.int 0, .ref q_2, .ref q_5]) (v := .ref q_5) hx hb (fun w q => hT w (s_RU w q)) t_RU k_RU n_RU hown hK hI g_R (by decide) rfl 2 (by decide) (hT _ w_154) (fun _ q => q) rfl hnm rfl rfl rfl (Nat.le_of_ble_eq_true rfl) rfl d_RU_init_23 (fun H locs hI => ?_)
  generalize eh_7 : fU h_6 R (28, 0, .inr (6, [.int 0, .ref q_2, .ref q_5])) = h_7 at hI
  have hX := hX.set (e := .inr (6, [.int 0, .ref q_2, .ref q_5])) g_R (by decide); rw [eh_7] at hX
  have hF := hF.set (e := .inr (6, [.int 0, .ref q_2, .ref q_5])) g_R (by decide); rw [eh_7] at hF
  have g_q_2 : h_7 q_2 = some (29, 0, .inl ((G.2.1 0), 40, .inl (fun _ => 0))) := (congrFun eh_7 q_2).symm.trans (fU_keep g_q_2 (f_neR g_q_2 g_R (by decide)))
  have g_q_5 : h_7 q_5 = some (30, 0, .inl ((G.2.1 0), 160, .inl (fun _ => 0))) := (congrFun eh_7 q_5).symm.trans (fU_keep g_q_5 (f_neR g_q_5 g_R (by decide)))
  have g_R : h_7 R = some (28, 0, .inr (6, [.int 0, .ref q_2, .ref q_5])) := (congrFun eh_7 R).symm.trans (fU_self _ _ _)
  exact f_vret C hr hI ⟨⟨q_2, q_5, g_R, g_q_2, g_q_5, by decide, fun _ => (Nat.zero_lt_succ _), fun _ => Nat.zero_le _⟩, hF⟩ hX (Nat.le_of_ble_eq_true rfl) (Nat.le_of_ble_eq_true rfl) d_RU_init_26
