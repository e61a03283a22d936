theorem gm_FS_placeOf : gM y_FS_placeOf b_FS_placeOf 2 (some .int) 2 := ⟨w_576, w_7, ⟨by decide, by decide⟩, by decide +kernel⟩
set_option maxHeartbeats 4000000 in
set_option maxRecDepth 100000 in
/-- FS_placeOf  -/
theorem c_FS_placeOf (l : Launch) (G : gG) (h : fH) (sz : Nat) (lot kind : Nat) (blot : lot < 30) (bkind : kind < 6) : cM l y_FS_placeOf b_FS_placeOf 2 (some .int) { frames := 1, cells := 0, slots := 0, locals := 20 } G [.int (nI lot), .int (nI kind)] h sz (cQi G h sz (fun z h' => z = nI (lot * 6 + kind) ∧ h' = h)) := by
  refine f_start (by decide) (Nat.le_of_ble_eq_true rfl) ?_
  intro p e s m below meth c ls C hr hsz hI hl
  obtain ⟨hx, hb, hml, hown, hnm, hlk, hT, hG, hZ⟩ := id C
  have hK := hG.1
  have hX : fX h sz h := fX.rf
  have hl : lv_has ls 2 [(0, .int (nI lot)), (1, .int (nI kind))] := hl
  refine lv_iload_n hx hb d_FS_placeOf_0 rfl (lv_at hl 0 rfl) ?_
  refine f_calli hI (f_runSN C hI (c_DR_isLot l G h _ (nI lot)) gm_DR_isLot w_559 w_577 rfl hl.1 rfl (Nat.le_of_ble_eq_true rfl) ⟨Nat.le_of_ble_eq_true rfl, Nat.le_of_ble_eq_true rfl⟩ d_FS_placeOf_1 ⟨Nat.le_of_ble_eq_true rfl, Nat.le_of_ble_eq_true rfl⟩) (fun r_1 h8 H9 locs hp9 hX9 hz9 hI => ?_)
  obtain ⟨rfl, e9⟩ := hp9
  rw [e9] at hI
  clear hX9 e9
  refine f_asi (lot_1 blot) ?_
  refine lv_if_eq (tgt := 23) hx hb d_FS_placeOf_4 (by decide) (fun c_2 => absurd c_2 (by decide)) (fun c_2 => ?_)
  refine lv_iload_n hx hb d_FS_placeOf_7 rfl (lv_at hl 1 rfl) ?_
  refine f_calli hI (f_runSN C hI (c_DR_isFactKind l G h _ (nI kind)) gm_DR_isFactKind w_562 w_578 rfl hl.1 rfl (Nat.le_of_ble_eq_true rfl) ⟨Nat.le_of_ble_eq_true rfl, Nat.le_of_ble_eq_true rfl⟩ d_FS_placeOf_8 ⟨Nat.le_of_ble_eq_true rfl, Nat.le_of_ble_eq_true rfl⟩) (fun r_3 h8 H9 locs hp9 hX9 hz9 hI => ?_)
  obtain ⟨rfl, e9⟩ := hp9
  rw [e9] at hI
  clear hX9 e9
  refine f_asi (kin_1 bkind) ?_
  refine lv_if_eq (tgt := 23) hx hb d_FS_placeOf_11 (by decide) (fun c_4 => absurd c_4 (by decide)) (fun c_4 => ?_)
  refine lv_iload_n hx hb d_FS_placeOf_14 rfl (lv_at hl 0 rfl) ?_
  refine lv_bipush (v := 6) hx hb d_FS_placeOf_15 (by decide) ?_
  refine lv_imul hx hb d_FS_placeOf_17 ?_
  refine f_asi (pk_mul lot 6) ?_
  refine lv_iload_n hx hb d_FS_placeOf_18 rfl (lv_at hl 1 rfl) ?_
  refine lv_iadd hx hb d_FS_placeOf_19 ?_
  refine f_asi (nI_add (lot * 6) kind) ?_
  refine lv_goto (tgt := 24) hx hb d_FS_placeOf_20 (by decide) ?_
  exact f_iret C hr hI ⟨rfl, rfl⟩ hX (Nat.le_refl _) (Nat.le_refl _) d_FS_placeOf_24
theorem gm_FS_newestOf : gM y_FS_newestOf b_FS_newestOf 4 (some (.object "DutyRules$Fact")) 2 := ⟨w_613, w_7, ⟨by decide, by decide⟩, by decide +kernel⟩
set_option maxHeartbeats 4000000 in
set_option maxRecDepth 100000 in
/-- FS_newestOf  -/
theorem c_FS_newestOf (l : Launch) (G : gG) (h : fH) (sz : Nat) (F A : Nat) (fa : Nat → Nat) (gq : Nat → Option Nat) (nf la : Nat) (fl fk fd fw fv : Nat → Nat) (hC : cFo G h F A fa gq nf la fl fk fd fw fv) (lot kind : Nat) (blot : lot < 30) (bkind : kind < 6) : cM l y_FS_newestOf b_FS_newestOf 4 (some (.object "DutyRules$Fact")) { frames := 2, cells := 0, slots := 0, locals := 41 } G [.ref F, .int (nI lot), .int (nI kind)] h sz (cQq G h sz (fun z h' => z = (lst (lQ fl fk lot kind) nf).map fa ∧ h' = h)) := by
  refine f_start (by decide) (Nat.le_of_ble_eq_true rfl) ?_
  intro p e s m below meth c ls C hr hsz hI hl
  obtain ⟨hx, hb, hml, hown, hnm, hlk, hT, hG, hZ⟩ := id C
  have hK := hG.1
  have hX : fX h sz h := fX.rf
  have hl : lv_has ls 4 [(0, .ref F), (1, .int (nI lot)), (2, .int (nI kind))] := hl
  obtain ⟨g_F, g_A, hgq, hfa, bnf, bla, bfl, bfk, bfd, bfw, bfv0⟩ := id hC
  have bfv : ∀ i, fv i ≤ 100000000 := fun i => Nat.le_trans (bfv0 i) (mostN_le _)
  refine lv_iload_n hx hb d_FS_newestOf_0 rfl (lv_at hl 1 rfl) ?_
  refine lv_iload_n hx hb d_FS_newestOf_1 rfl (lv_at hl 2 rfl) ?_
  refine f_calli hI (f_runS C hI (c_FS_placeOf l G h _ lot kind blot bkind) gm_FS_placeOf w_575 w_574 rfl hl.1 rfl (Nat.le_of_ble_eq_true rfl) ⟨Nat.le_of_ble_eq_true rfl, Nat.le_of_ble_eq_true rfl⟩ d_FS_newestOf_2 ⟨Nat.le_of_ble_eq_true rfl, Nat.le_of_ble_eq_true rfl⟩) (fun r_1 h8 H9 locs hp9 hX9 hz9 hI => ?_)
  obtain ⟨rfl, e9⟩ := hp9
  rw [e9] at hI
  clear hX9 e9
  refine lv_istore_n (lv' := [(3, .int (nI (lot * 6 + kind))), (0, .ref F), (1, .int (nI lot)), (2, .int (nI kind))]) hx hb d_FS_newestOf_5 rfl hl (by decide) rfl (fun ls hl => ?_)
  refine lv_iload_n hx hb d_FS_newestOf_6 rfl (lv_at hl 0 rfl) ?_
  refine lv_iconst (v := (-1)) hx hb d_FS_newestOf_7 (by decide) ?_
  refine lv_icmp_ne (tgt := 15) hx hb d_FS_newestOf_8 (by decide) (fun c_2 => ?_) (fun c_2 => absurd c_2 (n_m1 (by omega)))
  refine lv_aload_n hx hb d_FS_newestOf_15 rfl (lv_at hl 1 rfl) ?_
  refine f_get (C := "DutyRules$Facts") (T := T_FS) (N := 3) hx hb (fun w q => hT w (s_FS w q)) hown hK hI g_F rfl 2 (by decide) (hT _ w_93) (fun _ q => q) rfl d_FS_newestOf_16 ?_
  refine lv_iload_n hx hb d_FS_newestOf_19 rfl (lv_at hl 0 rfl) ?_
  refine f_aaldn (k := (lot * 6 + kind)) (v := ((lst (lQ fl fk lot kind) nf).map fa)) hx hb hI g_A (fT.ofK hK (t0 := 5) rfl) (by omega) (by omega) (hgq lot kind blot bkind) d_FS_newestOf_20 ?_
  exact f_aret (v := ((lst (lQ fl fk lot kind) nf).map fa)) C hr (Or.inl ⟨_, rfl⟩) hI ⟨rfl, rfl⟩ hX (Nat.le_refl _) (Nat.le_refl _) d_FS_newestOf_21
theorem gm_FS_heldValue : gM y_FS_heldValue b_FS_heldValue 7 (some .int) 4 := ⟨w_633, w_7, ⟨by decide, by decide⟩, by decide +kernel⟩
set_option maxHeartbeats 4000000 in
set_option maxRecDepth 100000 in
/-- FS_heldValue  -/
theorem c_FS_heldValue (l : Launch) (G : gG) (h : fH) (sz : Nat) (F A : Nat) (fa : Nat → Nat) (gq : Nat → Option Nat) (nf la : Nat) (fl fk fd fw fv : Nat → Nat) (hC : cFo G h F A fa gq nf la fl fk fd fw fv) (lot kind : Nat) (blot : lot < 30) (bkind : kind < 6) (day on : Nat) (bday : day ≤ 100000) (bon : on ≤ 100000) : cM l y_FS_heldValue b_FS_heldValue 7 (some .int) { frames := 3, cells := 0, slots := 0, locals := 64 } G [.ref F, .int (nI lot), .int (nI kind), .int (nI day), .int (nI on)] h sz (cQi G h sz (fun z h' => z = oN (kv fv (hk fl fk fd fw lot kind day on nf)) ∧ h' = h)) := by
  refine f_start (by decide) (Nat.le_of_ble_eq_true rfl) ?_
  intro p e s m below meth c ls C hr hsz hI hl
  obtain ⟨hx, hb, hml, hown, hnm, hlk, hT, hG, hZ⟩ := id C
  have hK := hG.1
  have hX : fX h sz h := fX.rf
  have hl : lv_has ls 7 [(0, .ref F), (1, .int (nI lot)), (2, .int (nI kind)), (3, .int (nI day)), (4, .int (nI on))] := hl
  obtain ⟨g_F, g_A, hgq, hfa, bnf, bla, bfl, bfk, bfd, bfw, bfv0⟩ := id hC
  have bfv : ∀ i, fv i ≤ 100000000 := fun i => Nat.le_trans (bfv0 i) (mostN_le _)
  have J11 : ∀ (k n : Nat), n ≤ k → n ≤ nf → ∀ hd : Option Nat, hk fl fk fd fw lot kind day on nf = max (hk fl fk fd fw lot kind day on n) (hdK fd hd) → (∀ i, hd = some i → n ≤ i ∧ i < nf) → ∀ (H : Heap) (locs : List Loc), fI G.1 g_cl (fA h sz) s.heap h H locs → ∀ ls : Array Slot, lv_has ls 7 [(0, .ref F), (1, .int (nI lot)), (2, .int (nI kind)), (3, .int (nI day)), (4, .int (nI on)), (5, va_rf (hd.map fa)), (6, va_rf ((lst (lQ fl fk lot kind) n).map fa))] → W p l e { frames := 3, cells := 0, slots := 0, locals := 64 } s m ([.ref F, .int (nI lot), .int (nI kind), .int (nI day), .int (nI on)] : List Value).toArray below meth c H locs 0 0 (MQ below (cQi G h sz (fun z h' => z = oN (kv fv (hk fl fk fd fw lot kind day on nf)) ∧ h' = h)) ([.ref F, .int (nI lot), .int (nI kind), .int (nI day), .int (nI on)] : List Value).toArray s 0 0 (fA h sz)) (F0 m 11 ls []) := by
    intro k
    induction k with
    | zero =>
      intro n hnk hnf hd hmx hin H locs hI ls hl
      rcases eL : lst (lQ fl fk lot kind) n with _ | j
      · rw [hk_end eL] at hmx
        rw [eL] at hl
        rcases hd with _ | i
        · have hl : lv_has ls 7 [(0, .ref F), (1, .int (nI lot)), (2, .int (nI kind)), (3, .int (nI day)), (4, .int (nI on)), (5, .null), (6, .null)] := hl
          have e0 : hk fl fk fd fw lot kind day on nf = 0 := by rw [hmx]; rfl
          refine lv_aloadN hx hb d_FS_heldValue_11 (lv_at hl 6 rfl) ?_
          refine lv_ifnullN (tgt := 67) hx hb d_FS_heldValue_13 (by decide) ?_
          refine lv_aloadN hx hb d_FS_heldValue_67 (lv_at hl 5 rfl) ?_
          refine lv_ifnonnullN hx hb d_FS_heldValue_69 ?_
          refine lv_iconst (v := (-1)) hx hb d_FS_heldValue_72 (by decide) ?_
          refine lv_goto (tgt := 81) hx hb d_FS_heldValue_73 (by decide) ?_
          exact f_iret C hr hI ⟨by rw [e0]; rfl, rfl⟩ hX (Nat.le_refl _) (Nat.le_refl _) d_FS_heldValue_81
        · have hl : lv_has ls 7 [(0, .ref F), (1, .int (nI lot)), (2, .int (nI kind)), (3, .int (nI day)), (4, .int (nI on)), (5, .ref (fa i)), (6, .null)] := hl
          have hi9 := hin i rfl
          have e0 : hk fl fk fd fw lot kind day on nf = kK fd i := by rw [hmx]; exact Nat.zero_max _
          have g_i := hfa i (by omega)
          unfold fcc at g_i
          refine lv_aloadN hx hb d_FS_heldValue_11 (lv_at hl 6 rfl) ?_
          refine lv_ifnullN (tgt := 67) hx hb d_FS_heldValue_13 (by decide) ?_
          refine lv_aload hx hb d_FS_heldValue_67 (lv_at hl 5 rfl) ?_
          refine lv_ifnonnull (tgt := 76) hx hb d_FS_heldValue_69 (by decide) ?_
          refine lv_aload hx hb d_FS_heldValue_76 (lv_at hl 5 rfl) ?_
          refine f_getN (C := "DutyRules$Fact") (T := T_FA) (N := 4) hx hb (fun w q => hT w (s_FA w q)) hown hK hI g_i rfl 1 (by decide) (hG.2.1 _ w_587) (fun _ q => q) rfl d_FS_heldValue_78 ?_
          exact f_iret C hr hI ⟨by rw [e0, kv_k (by omega)]; rfl, rfl⟩ hX (Nat.le_refl _) (Nat.le_refl _) d_FS_heldValue_81
      · exact absurd (lst_in eL).1 (by omega)
    | succ k ih =>
      intro n hnk hnf hd hmx hin H locs hI ls hl
      have ih : ∀ n : Nat, n ≤ k → n ≤ nf → ∀ hd : Option Nat, hk fl fk fd fw lot kind day on nf = max (hk fl fk fd fw lot kind day on n) (hdK fd hd) → (∀ i, hd = some i → n ≤ i ∧ i < nf) → ∀ (H : Heap) (locs : List Loc), fI G.1 g_cl (fA h sz) s.heap h H locs → ∀ ls : Array Slot, lv_has ls 7 [(0, .ref F), (1, .int (nI lot)), (2, .int (nI kind)), (3, .int (nI day)), (4, .int (nI on)), (5, va_rf (hd.map fa)), (6, va_rf ((lst (lQ fl fk lot kind) n).map fa))] → W p l e { frames := 3, cells := 0, slots := 0, locals := 64 } s m ([.ref F, .int (nI lot), .int (nI kind), .int (nI day), .int (nI on)] : List Value).toArray below meth c H locs 0 0 (MQ below (cQi G h sz (fun z h' => z = oN (kv fv (hk fl fk fd fw lot kind day on nf)) ∧ h' = h)) ([.ref F, .int (nI lot), .int (nI kind), .int (nI day), .int (nI on)] : List Value).toArray s 0 0 (fA h sz)) (F0 m 11 ls []) := ih
      rcases eL : lst (lQ fl fk lot kind) n with _ | j
      · rw [hk_end eL] at hmx
        rw [eL] at hl
        rcases hd with _ | i
        · have hl : lv_has ls 7 [(0, .ref F), (1, .int (nI lot)), (2, .int (nI kind)), (3, .int (nI day)), (4, .int (nI on)), (5, .null), (6, .null)] := hl
          have e0 : hk fl fk fd fw lot kind day on nf = 0 := by rw [hmx]; rfl
          refine lv_aloadN hx hb d_FS_heldValue_11 (lv_at hl 6 rfl) ?_
          refine lv_ifnullN (tgt := 67) hx hb d_FS_heldValue_13 (by decide) ?_
          refine lv_aloadN hx hb d_FS_heldValue_67 (lv_at hl 5 rfl) ?_
          refine lv_ifnonnullN hx hb d_FS_heldValue_69 ?_
          refine lv_iconst (v := (-1)) hx hb d_FS_heldValue_72 (by decide) ?_
          refine lv_goto (tgt := 81) hx hb d_FS_heldValue_73 (by decide) ?_
          exact f_iret C hr hI ⟨by rw [e0]; rfl, rfl⟩ hX (Nat.le_refl _) (Nat.le_refl _) d_FS_heldValue_81
        · have hl : lv_has ls 7 [(0, .ref F), (1, .int (nI lot)), (2, .int (nI kind)), (3, .int (nI day)), (4, .int (nI on)), (5, .ref (fa i)), (6, .null)] := hl
          have hi9 := hin i rfl
          have e0 : hk fl fk fd fw lot kind day on nf = kK fd i := by rw [hmx]; exact Nat.zero_max _
          have g_i := hfa i (by omega)
          unfold fcc at g_i
          refine lv_aloadN hx hb d_FS_heldValue_11 (lv_at hl 6 rfl) ?_
          refine lv_ifnullN (tgt := 67) hx hb d_FS_heldValue_13 (by decide) ?_
          refine lv_aload hx hb d_FS_heldValue_67 (lv_at hl 5 rfl) ?_
          refine lv_ifnonnull (tgt := 76) hx hb d_FS_heldValue_69 (by decide) ?_
          refine lv_aload hx hb d_FS_heldValue_76 (lv_at hl 5 rfl) ?_
          refine f_getN (C := "DutyRules$Fact") (T := T_FA) (N := 4) hx hb (fun w q => hT w (s_FA w q)) hown hK hI g_i rfl 1 (by decide) (hG.2.1 _ w_587) (fun _ q => q) rfl d_FS_heldValue_78 ?_
          exact f_iret C hr hI ⟨by rw [e0, kv_k (by omega)]; rfl, rfl⟩ hX (Nat.le_refl _) (Nat.le_refl _) d_FS_heldValue_81
      · rw [eL] at hl
        have hj := (lst_in eL).1
        have hQj := (lst_in eL).2
        simp only [lQ, decide_eq_true_eq] at hQj
        have g_j := hfa j (by omega)
        unfold fcc at g_j
        rw [hQj.1, hQj.2] at g_j
        rcases hd with _ | i
        · have hl : lv_has ls 7 [(0, .ref F), (1, .int (nI lot)), (2, .int (nI kind)), (3, .int (nI day)), (4, .int (nI on)), (5, .null), (6, .ref (fa j))] := hl
          refine lv_aload hx hb d_FS_heldValue_11 (lv_at hl 6 rfl) ?_
          refine lv_ifnull hx hb d_FS_heldValue_13 ?_
          refine lv_aload hx hb d_FS_heldValue_16 (lv_at hl 6 rfl) ?_
          refine f_getN (C := "DutyRules$Fact") (T := T_FA) (N := 4) hx hb (fun w q => hT w (s_FA w q)) hown hK hI g_j rfl 0 (by decide) (hG.2.1 _ w_585) (fun _ q => q) rfl d_FS_heldValue_18 ?_
          refine lv_iload_n hx hb d_FS_heldValue_21 rfl (lv_at hl 3 rfl) ?_
          refine lv_icmp_gt (tgt := 57) hx hb d_FS_heldValue_22 (by decide) (fun c_1 => ?_) (fun c_1 => ?_)
          · have c_1 : day < (fd j) := (n_lt (a := day) (b := (fd j)) (by omega) (by have := bfd j; omega)).mp c_1
            refine lv_aload hx hb d_FS_heldValue_57 (lv_at hl 6 rfl) ?_
            refine f_getN (C := "DutyRules$Fact") (T := T_FA) (N := 4) hx hb (fun w q => hT w (s_FA w q)) hown hK hI g_j rfl 2 (by decide) (hG.2.1 _ w_589) (fun _ q => q) rfl d_FS_heldValue_59 ?_
            refine f_astoreq (lv' := [(6, va_rf ((lst (lQ fl fk lot kind) j).map fa)), (0, .ref F), (1, .int (nI lot)), (2, .int (nI kind)), (3, .int (nI day)), (4, .int (nI on)), (5, .null)]) hx hb d_FS_heldValue_62 hl (by decide) rfl (fun ls hl => ?_)
            refine lv_goto (tgt := 11) hx hb d_FS_heldValue_64 (by decide) ?_
            refine ih j (by omega) (by omega) (none) (hd_no hmx eL (fun q => by have q3 := q.2.2.1; have q4 := q.2.2.2; omega)) (fun i9 q => by cases q) _ _ hI ls ?_
            exact lv_sub hl [1, 2, 3, 4, 5, 6, 0] rfl
          · have c_1 : ¬ day < (fd j) := fun q => c_1 ((n_lt (a := day) (b := (fd j)) (by omega) (by have := bfd j; omega)).mpr q)
            refine lv_aload hx hb d_FS_heldValue_25 (lv_at hl 6 rfl) ?_
            refine f_getN (C := "DutyRules$Fact") (T := T_FA) (N := 4) hx hb (fun w q => hT w (s_FA w q)) hown hK hI g_j rfl 3 (by decide) (hG.2.1 _ w_591) (fun _ q => q) rfl d_FS_heldValue_27 ?_
            refine lv_iload hx hb d_FS_heldValue_30 (lv_at hl 4 rfl) ?_
            refine lv_icmp_gt (tgt := 57) hx hb d_FS_heldValue_32 (by decide) (fun c_2 => ?_) (fun c_2 => ?_)
            · have c_2 : on < (fw j) := (n_lt (a := on) (b := (fw j)) (by omega) (by have := bfw j; omega)).mp c_2
              refine lv_aload hx hb d_FS_heldValue_57 (lv_at hl 6 rfl) ?_
              refine f_getN (C := "DutyRules$Fact") (T := T_FA) (N := 4) hx hb (fun w q => hT w (s_FA w q)) hown hK hI g_j rfl 2 (by decide) (hG.2.1 _ w_589) (fun _ q => q) rfl d_FS_heldValue_59 ?_
              refine f_astoreq (lv' := [(6, va_rf ((lst (lQ fl fk lot kind) j).map fa)), (0, .ref F), (1, .int (nI lot)), (2, .int (nI kind)), (3, .int (nI day)), (4, .int (nI on)), (5, .null)]) hx hb d_FS_heldValue_62 hl (by decide) rfl (fun ls hl => ?_)
              refine lv_goto (tgt := 11) hx hb d_FS_heldValue_64 (by decide) ?_
              refine ih j (by omega) (by omega) (none) (hd_no hmx eL (fun q => by have q3 := q.2.2.1; have q4 := q.2.2.2; omega)) (fun i9 q => by cases q) _ _ hI ls ?_
              exact lv_sub hl [1, 2, 3, 4, 5, 6, 0] rfl
            · have c_2 : ¬ on < (fw j) := fun q => c_2 ((n_lt (a := on) (b := (fw j)) (by omega) (by have := bfw j; omega)).mpr q)
              refine lv_aloadN hx hb d_FS_heldValue_35 (lv_at hl 5 rfl) ?_
              refine lv_ifnullN (tgt := 53) hx hb d_FS_heldValue_37 (by decide) ?_
              refine lv_aload hx hb d_FS_heldValue_53 (lv_at hl 6 rfl) ?_
              refine lv_astore (lv' := [(5, .ref (fa j)), (0, .ref F), (1, .int (nI lot)), (2, .int (nI kind)), (3, .int (nI day)), (4, .int (nI on)), (6, .ref (fa j))]) hx hb d_FS_heldValue_55 hl (by decide) rfl (fun ls hl => ?_)
              refine lv_aload hx hb d_FS_heldValue_57 (lv_at hl 6 rfl) ?_
              refine f_getN (C := "DutyRules$Fact") (T := T_FA) (N := 4) hx hb (fun w q => hT w (s_FA w q)) hown hK hI g_j rfl 2 (by decide) (hG.2.1 _ w_589) (fun _ q => q) rfl d_FS_heldValue_59 ?_
              refine f_astoreq (lv' := [(6, va_rf ((lst (lQ fl fk lot kind) j).map fa)), (5, .ref (fa j)), (0, .ref F), (1, .int (nI lot)), (2, .int (nI kind)), (3, .int (nI day)), (4, .int (nI on))]) hx hb d_FS_heldValue_62 hl (by decide) rfl (fun ls hl => ?_)
              refine lv_goto (tgt := 11) hx hb d_FS_heldValue_64 (by decide) ?_
              refine ih j (by omega) (by omega) (some j) (hd_gt hmx eL ⟨hQj.1, hQj.2, by omega, by omega⟩ (Nat.zero_le _)) (fun i9 q => by cases q; omega) _ _ hI ls ?_
              exact lv_sub hl [2, 3, 4, 5, 6, 1, 0] rfl
        · have hl : lv_has ls 7 [(0, .ref F), (1, .int (nI lot)), (2, .int (nI kind)), (3, .int (nI day)), (4, .int (nI on)), (5, .ref (fa i)), (6, .ref (fa j))] := hl
          have hi9 := hin i rfl
          have g_i := hfa i (by omega)
          unfold fcc at g_i
          refine lv_aload hx hb d_FS_heldValue_11 (lv_at hl 6 rfl) ?_
          refine lv_ifnull hx hb d_FS_heldValue_13 ?_
          refine lv_aload hx hb d_FS_heldValue_16 (lv_at hl 6 rfl) ?_
          refine f_getN (C := "DutyRules$Fact") (T := T_FA) (N := 4) hx hb (fun w q => hT w (s_FA w q)) hown hK hI g_j rfl 0 (by decide) (hG.2.1 _ w_585) (fun _ q => q) rfl d_FS_heldValue_18 ?_
          refine lv_iload_n hx hb d_FS_heldValue_21 rfl (lv_at hl 3 rfl) ?_
          refine lv_icmp_gt (tgt := 57) hx hb d_FS_heldValue_22 (by decide) (fun c_3 => ?_) (fun c_3 => ?_)
          · have c_3 : day < (fd j) := (n_lt (a := day) (b := (fd j)) (by omega) (by have := bfd j; omega)).mp c_3
            refine lv_aload hx hb d_FS_heldValue_57 (lv_at hl 6 rfl) ?_
            refine f_getN (C := "DutyRules$Fact") (T := T_FA) (N := 4) hx hb (fun w q => hT w (s_FA w q)) hown hK hI g_j rfl 2 (by decide) (hG.2.1 _ w_589) (fun _ q => q) rfl d_FS_heldValue_59 ?_
            refine f_astoreq (lv' := [(6, va_rf ((lst (lQ fl fk lot kind) j).map fa)), (0, .ref F), (1, .int (nI lot)), (2, .int (nI kind)), (3, .int (nI day)), (4, .int (nI on)), (5, .ref (fa i))]) hx hb d_FS_heldValue_62 hl (by decide) rfl (fun ls hl => ?_)
            refine lv_goto (tgt := 11) hx hb d_FS_heldValue_64 (by decide) ?_
            refine ih j (by omega) (by omega) (some i) (hd_no hmx eL (fun q => by have q3 := q.2.2.1; have q4 := q.2.2.2; omega)) (fun i9 q => by cases q; omega) _ _ hI ls ?_
            exact lv_sub hl [1, 2, 3, 4, 5, 6, 0] rfl
          · have c_3 : ¬ day < (fd j) := fun q => c_3 ((n_lt (a := day) (b := (fd j)) (by omega) (by have := bfd j; omega)).mpr q)
            refine lv_aload hx hb d_FS_heldValue_25 (lv_at hl 6 rfl) ?_
            refine f_getN (C := "DutyRules$Fact") (T := T_FA) (N := 4) hx hb (fun w q => hT w (s_FA w q)) hown hK hI g_j rfl 3 (by decide) (hG.2.1 _ w_591) (fun _ q => q) rfl d_FS_heldValue_27 ?_
            refine lv_iload hx hb d_FS_heldValue_30 (lv_at hl 4 rfl) ?_
            refine lv_icmp_gt (tgt := 57) hx hb d_FS_heldValue_32 (by decide) (fun c_4 => ?_) (fun c_4 => ?_)
            · have c_4 : on < (fw j) := (n_lt (a := on) (b := (fw j)) (by omega) (by have := bfw j; omega)).mp c_4
              refine lv_aload hx hb d_FS_heldValue_57 (lv_at hl 6 rfl) ?_
              refine f_getN (C := "DutyRules$Fact") (T := T_FA) (N := 4) hx hb (fun w q => hT w (s_FA w q)) hown hK hI g_j rfl 2 (by decide) (hG.2.1 _ w_589) (fun _ q => q) rfl d_FS_heldValue_59 ?_
              refine f_astoreq (lv' := [(6, va_rf ((lst (lQ fl fk lot kind) j).map fa)), (0, .ref F), (1, .int (nI lot)), (2, .int (nI kind)), (3, .int (nI day)), (4, .int (nI on)), (5, .ref (fa i))]) hx hb d_FS_heldValue_62 hl (by decide) rfl (fun ls hl => ?_)
              refine lv_goto (tgt := 11) hx hb d_FS_heldValue_64 (by decide) ?_
              refine ih j (by omega) (by omega) (some i) (hd_no hmx eL (fun q => by have q3 := q.2.2.1; have q4 := q.2.2.2; omega)) (fun i9 q => by cases q; omega) _ _ hI ls ?_
              exact lv_sub hl [1, 2, 3, 4, 5, 6, 0] rfl
            · have c_4 : ¬ on < (fw j) := fun q => c_4 ((n_lt (a := on) (b := (fw j)) (by omega) (by have := bfw j; omega)).mpr q)
              refine lv_aload hx hb d_FS_heldValue_35 (lv_at hl 5 rfl) ?_
              refine lv_ifnull hx hb d_FS_heldValue_37 ?_
              refine lv_aload hx hb d_FS_heldValue_40 (lv_at hl 6 rfl) ?_
              refine f_getN (C := "DutyRules$Fact") (T := T_FA) (N := 4) hx hb (fun w q => hT w (s_FA w q)) hown hK hI g_j rfl 0 (by decide) (hG.2.1 _ w_585) (fun _ q => q) rfl d_FS_heldValue_42 ?_
              refine lv_aload hx hb d_FS_heldValue_45 (lv_at hl 5 rfl) ?_
              refine f_getN (C := "DutyRules$Fact") (T := T_FA) (N := 4) hx hb (fun w q => hT w (s_FA w q)) hown hK hI g_i rfl 0 (by decide) (hG.2.1 _ w_585) (fun _ q => q) rfl d_FS_heldValue_47 ?_
              refine lv_icmp_le (tgt := 57) hx hb d_FS_heldValue_50 (by decide) (fun c_5 => ?_) (fun c_5 => ?_)
              · have c_5 : (fd j) ≤ (fd i) := (n_le (a := (fd j)) (b := (fd i)) (by have := bfd j; omega) (by have := bfd i; omega)).mp c_5
                refine lv_aload hx hb d_FS_heldValue_57 (lv_at hl 6 rfl) ?_
                refine f_getN (C := "DutyRules$Fact") (T := T_FA) (N := 4) hx hb (fun w q => hT w (s_FA w q)) hown hK hI g_j rfl 2 (by decide) (hG.2.1 _ w_589) (fun _ q => q) rfl d_FS_heldValue_59 ?_
                refine f_astoreq (lv' := [(6, va_rf ((lst (lQ fl fk lot kind) j).map fa)), (0, .ref F), (1, .int (nI lot)), (2, .int (nI kind)), (3, .int (nI day)), (4, .int (nI on)), (5, .ref (fa i))]) hx hb d_FS_heldValue_62 hl (by decide) rfl (fun ls hl => ?_)
                refine lv_goto (tgt := 11) hx hb d_FS_heldValue_64 (by decide) ?_
                refine ih j (by omega) (by omega) (some i) (hd_le hmx eL ⟨hQj.1, hQj.2, by omega, by omega⟩ (Nat.le_of_lt (kK_lt (by omega) (by omega) (by omega)))) (fun i9 q => by cases q; omega) _ _ hI ls ?_
                exact lv_sub hl [1, 2, 3, 4, 5, 6, 0] rfl
              · have c_5 : ¬ (fd j) ≤ (fd i) := fun q => c_5 ((n_le (a := (fd j)) (b := (fd i)) (by have := bfd j; omega) (by have := bfd i; omega)).mpr q)
                refine lv_aload hx hb d_FS_heldValue_53 (lv_at hl 6 rfl) ?_
                refine lv_astore (lv' := [(5, .ref (fa j)), (0, .ref F), (1, .int (nI lot)), (2, .int (nI kind)), (3, .int (nI day)), (4, .int (nI on)), (6, .ref (fa j))]) hx hb d_FS_heldValue_55 hl (by decide) rfl (fun ls hl => ?_)
                refine lv_aload hx hb d_FS_heldValue_57 (lv_at hl 6 rfl) ?_
                refine f_getN (C := "DutyRules$Fact") (T := T_FA) (N := 4) hx hb (fun w q => hT w (s_FA w q)) hown hK hI g_j rfl 2 (by decide) (hG.2.1 _ w_589) (fun _ q => q) rfl d_FS_heldValue_59 ?_
                refine f_astoreq (lv' := [(6, va_rf ((lst (lQ fl fk lot kind) j).map fa)), (5, .ref (fa j)), (0, .ref F), (1, .int (nI lot)), (2, .int (nI kind)), (3, .int (nI day)), (4, .int (nI on))]) hx hb d_FS_heldValue_62 hl (by decide) rfl (fun ls hl => ?_)
                refine lv_goto (tgt := 11) hx hb d_FS_heldValue_64 (by decide) ?_
                refine ih j (by omega) (by omega) (some j) (hd_gt hmx eL ⟨hQj.1, hQj.2, by omega, by omega⟩ (Nat.le_of_lt (kK_gt (by omega) (by omega)))) (fun i9 q => by cases q; omega) _ _ hI ls ?_
                exact lv_sub hl [2, 3, 4, 5, 6, 1, 0] rfl
  refine lv_null hx hb d_FS_heldValue_0 ?_
  refine lv_astoreN (lv' := [(5, .null), (0, .ref F), (1, .int (nI lot)), (2, .int (nI kind)), (3, .int (nI day)), (4, .int (nI on))]) hx hb d_FS_heldValue_1 hl (by decide) rfl (fun ls hl => ?_)
  refine lv_aload_n hx hb d_FS_heldValue_3 rfl (lv_at hl 1 rfl) ?_
  refine lv_iload_n hx hb d_FS_heldValue_4 rfl (lv_at hl 2 rfl) ?_
  refine lv_iload_n hx hb d_FS_heldValue_5 rfl (lv_at hl 3 rfl) ?_
  refine f_callq hI (f_runV C hI (c_FS_newestOf l G h _ F A fa gq nf la fl fk fd fw fv hC lot kind blot bkind) gm_FS_newestOf w_612 p_FS_newestOf w_610 g_F rfl rfl rfl hl.1 rfl (Nat.le_of_ble_eq_true rfl) ⟨Nat.le_of_ble_eq_true rfl, Nat.le_of_ble_eq_true rfl⟩ d_FS_heldValue_6 ⟨Nat.le_of_ble_eq_true rfl, Nat.le_of_ble_eq_true rfl⟩) (fun r_6 h8 H9 locs hp9 hX9 hz9 hI => ?_)
  obtain ⟨rfl, e9⟩ := hp9
  rw [e9] at hI
  clear hX9 e9
  refine f_astoreq (lv' := [(6, va_rf ((lst (lQ fl fk lot kind) nf).map fa)), (5, .null), (0, .ref F), (1, .int (nI lot)), (2, .int (nI kind)), (3, .int (nI day)), (4, .int (nI on))]) hx hb d_FS_heldValue_9 hl (by decide) rfl (fun ls hl => ?_)
  refine J11 nf nf (Nat.le_refl _) (Nat.le_refl _) none (Nat.max_zero _).symm (fun i q => by cases q) _ _ hI ls ?_
  exact lv_sub hl [2, 3, 4, 5, 6, 1, 0] rfl
theorem gm_FS_hasLitres : gM y_FS_hasLitres b_FS_hasLitres 5 (some .boolean) 3 := ⟨w_746, w_7, ⟨by decide, by decide⟩, by decide +kernel⟩
set_option maxHeartbeats 4000000 in
set_option maxRecDepth 100000 in
/-- FS_hasLitres  -/
theorem c_FS_hasLitres (l : Launch) (G : gG) (h : fH) (sz : Nat) (F A : Nat) (fa : Nat → Nat) (gq : Nat → Option Nat) (nf la : Nat) (fl fk fd fw fv : Nat → Nat) (hC : cFo G h F A fa gq nf la fl fk fd fw fv) (lot mn : Nat) (blot : lot < 30) (bm : mn ≤ 3000) : cM l y_FS_hasLitres b_FS_hasLitres 5 (some .boolean) { frames := 3, cells := 0, slots := 0, locals := 64 } G [.ref F, .int (nI lot), .int (nI (30 * mn)), .int (nI (30 * mn + 29))] h sz (cQi G h sz (fun z h' => z = (if hLt fl fk fd lot mn nf = true then 1 else 0) ∧ h' = h)) := by
  refine f_start (by decide) (Nat.le_of_ble_eq_true rfl) ?_
  intro p e s m below meth c ls C hr hsz hI hl
  obtain ⟨hx, hb, hml, hown, hnm, hlk, hT, hG, hZ⟩ := id C
  have hK := hG.1
  have hX : fX h sz h := fX.rf
  have hl : lv_has ls 5 [(0, .ref F), (1, .int (nI lot)), (2, .int (nI (30 * mn))), (3, .int (nI (30 * mn + 29)))] := hl
  obtain ⟨g_F, g_A, hgq, hfa, bnf, bla, bfl, bfk, bfd, bfw, bfv0⟩ := id hC
  have bfv : ∀ i, fv i ≤ 100000000 := fun i => Nat.le_trans (bfv0 i) (mostN_le _)
  have J8 : ∀ (k n : Nat), n ≤ k → n ≤ nf → hLt fl fk fd lot mn nf = hLt fl fk fd lot mn n → ∀ (H : Heap) (locs : List Loc), fI G.1 g_cl (fA h sz) s.heap h H locs → ∀ ls : Array Slot, lv_has ls 5 [(0, .ref F), (1, .int (nI lot)), (2, .int (nI (30 * mn))), (3, .int (nI (30 * mn + 29))), (4, va_rf ((lst (lQ fl fk lot 2) n).map fa))] → W p l e { frames := 3, cells := 0, slots := 0, locals := 64 } s m ([.ref F, .int (nI lot), .int (nI (30 * mn)), .int (nI (30 * mn + 29))] : List Value).toArray below meth c H locs 0 0 (MQ below (cQi G h sz (fun z h' => z = (if hLt fl fk fd lot mn nf = true then 1 else 0) ∧ h' = h)) ([.ref F, .int (nI lot), .int (nI (30 * mn)), .int (nI (30 * mn + 29))] : List Value).toArray s 0 0 (fA h sz)) (F0 m 8 ls []) := by
    intro k
    induction k with
    | zero =>
      intro n hnk hnf hlt H locs hI ls hl
      rcases eL : lst (lQ fl fk lot 2) n with _ | j
      · rw [eL] at hl
        have hl : lv_has ls 5 [(0, .ref F), (1, .int (nI lot)), (2, .int (nI (30 * mn))), (3, .int (nI (30 * mn + 29))), (4, .null)] := hl
        refine lv_aloadN hx hb d_FS_hasLitres_8 (lv_at hl 4 rfl) ?_
        refine lv_ifnullN (tgt := 43) hx hb d_FS_hasLitres_10 (by decide) ?_
        refine lv_iconst (v := 0) hx hb d_FS_hasLitres_43 (by decide) ?_
        exact f_zret C hr rfl hI ⟨by rw [hlt, hLt_end eL]; rfl, rfl⟩ hX (Nat.le_refl _) (Nat.le_refl _) d_FS_hasLitres_44
      · exact absurd (lst_in eL).1 (by omega)
    | succ k ih =>
      intro n hnk hnf hlt H locs hI ls hl
      have ih : ∀ n : Nat, n ≤ k → n ≤ nf → hLt fl fk fd lot mn nf = hLt fl fk fd lot mn n → ∀ (H : Heap) (locs : List Loc), fI G.1 g_cl (fA h sz) s.heap h H locs → ∀ ls : Array Slot, lv_has ls 5 [(0, .ref F), (1, .int (nI lot)), (2, .int (nI (30 * mn))), (3, .int (nI (30 * mn + 29))), (4, va_rf ((lst (lQ fl fk lot 2) n).map fa))] → W p l e { frames := 3, cells := 0, slots := 0, locals := 64 } s m ([.ref F, .int (nI lot), .int (nI (30 * mn)), .int (nI (30 * mn + 29))] : List Value).toArray below meth c H locs 0 0 (MQ below (cQi G h sz (fun z h' => z = (if hLt fl fk fd lot mn nf = true then 1 else 0) ∧ h' = h)) ([.ref F, .int (nI lot), .int (nI (30 * mn)), .int (nI (30 * mn + 29))] : List Value).toArray s 0 0 (fA h sz)) (F0 m 8 ls []) := ih
      rcases eL : lst (lQ fl fk lot 2) n with _ | j
      · rw [eL] at hl
        have hl : lv_has ls 5 [(0, .ref F), (1, .int (nI lot)), (2, .int (nI (30 * mn))), (3, .int (nI (30 * mn + 29))), (4, .null)] := hl
        refine lv_aloadN hx hb d_FS_hasLitres_8 (lv_at hl 4 rfl) ?_
        refine lv_ifnullN (tgt := 43) hx hb d_FS_hasLitres_10 (by decide) ?_
        refine lv_iconst (v := 0) hx hb d_FS_hasLitres_43 (by decide) ?_
        exact f_zret C hr rfl hI ⟨by rw [hlt, hLt_end eL]; rfl, rfl⟩ hX (Nat.le_refl _) (Nat.le_refl _) d_FS_hasLitres_44
      · rw [eL] at hl
        have hj := (lst_in eL).1
        have hl : lv_has ls 5 [(0, .ref F), (1, .int (nI lot)), (2, .int (nI (30 * mn))), (3, .int (nI (30 * mn + 29))), (4, .ref (fa j))] := hl
        have hQj := (lst_in eL).2
        simp only [lQ, decide_eq_true_eq] at hQj
        have g_j := hfa j (by omega)
        unfold fcc at g_j
        rw [hQj.1, hQj.2] at g_j
        have hs9 : hLt fl fk fd lot mn nf = (hLt fl fk fd lot mn j || decide (fl j = lot ∧ fk j = 2 ∧ fd j / 30 = mn)) := hlt.trans (hLt_step eL)
        refine lv_aload hx hb d_FS_hasLitres_8 (lv_at hl 4 rfl) ?_
        refine lv_ifnull hx hb d_FS_hasLitres_10 ?_
        refine lv_aload hx hb d_FS_hasLitres_13 (lv_at hl 4 rfl) ?_
        refine f_getN (C := "DutyRules$Fact") (T := T_FA) (N := 4) hx hb (fun w q => hT w (s_FA w q)) hown hK hI g_j rfl 0 (by decide) (hG.2.1 _ w_585) (fun _ q => q) rfl d_FS_hasLitres_15 ?_
        refine lv_iload_n hx hb d_FS_hasLitres_18 rfl (lv_at hl 2 rfl) ?_
        refine lv_icmp_lt (tgt := 33) hx hb d_FS_hasLitres_19 (by decide) (fun c_1 => ?_) (fun c_1 => ?_)
        · have c_1 : (fd j) < (30 * mn) := (n_lt (a := (fd j)) (b := (30 * mn)) (by have := bfd j; omega) (by omega)).mp c_1
          refine lv_aload hx hb d_FS_hasLitres_33 (lv_at hl 4 rfl) ?_
          refine f_getN (C := "DutyRules$Fact") (T := T_FA) (N := 4) hx hb (fun w q => hT w (s_FA w q)) hown hK hI g_j rfl 2 (by decide) (hG.2.1 _ w_589) (fun _ q => q) rfl d_FS_hasLitres_35 ?_
          refine f_astoreq (lv' := [(4, va_rf ((lst (lQ fl fk lot 2) j).map fa)), (0, .ref F), (1, .int (nI lot)), (2, .int (nI (30 * mn))), (3, .int (nI (30 * mn + 29)))]) hx hb d_FS_hasLitres_38 hl (by decide) rfl (fun ls hl => ?_)
          refine lv_goto (tgt := 8) hx hb d_FS_hasLitres_40 (by decide) ?_
          refine ih j (by omega) (by omega) (hs9.trans (by rw [decide_eq_false (fun q => by have q3 := q.2.2; omega), Bool.or_false])) _ _ hI ls ?_
          exact lv_sub hl [1, 2, 3, 4, 0] rfl
        · have c_1 : ¬ (fd j) < (30 * mn) := fun q => c_1 ((n_lt (a := (fd j)) (b := (30 * mn)) (by have := bfd j; omega) (by omega)).mpr q)
          refine lv_aload hx hb d_FS_hasLitres_22 (lv_at hl 4 rfl) ?_
          refine f_getN (C := "DutyRules$Fact") (T := T_FA) (N := 4) hx hb (fun w q => hT w (s_FA w q)) hown hK hI g_j rfl 0 (by decide) (hG.2.1 _ w_585) (fun _ q => q) rfl d_FS_hasLitres_24 ?_
          refine lv_iload_n hx hb d_FS_hasLitres_27 rfl (lv_at hl 3 rfl) ?_
          refine lv_icmp_gt (tgt := 33) hx hb d_FS_hasLitres_28 (by decide) (fun c_2 => ?_) (fun c_2 => ?_)
          · have c_2 : (30 * mn + 29) < (fd j) := (n_lt (a := (30 * mn + 29)) (b := (fd j)) (by omega) (by have := bfd j; omega)).mp c_2
            refine lv_aload hx hb d_FS_hasLitres_33 (lv_at hl 4 rfl) ?_
            refine f_getN (C := "DutyRules$Fact") (T := T_FA) (N := 4) hx hb (fun w q => hT w (s_FA w q)) hown hK hI g_j rfl 2 (by decide) (hG.2.1 _ w_589) (fun _ q => q) rfl d_FS_hasLitres_35 ?_
            refine f_astoreq (lv' := [(4, va_rf ((lst (lQ fl fk lot 2) j).map fa)), (0, .ref F), (1, .int (nI lot)), (2, .int (nI (30 * mn))), (3, .int (nI (30 * mn + 29)))]) hx hb d_FS_hasLitres_38 hl (by decide) rfl (fun ls hl => ?_)
            refine lv_goto (tgt := 8) hx hb d_FS_hasLitres_40 (by decide) ?_
            refine ih j (by omega) (by omega) (hs9.trans (by rw [decide_eq_false (fun q => by have q3 := q.2.2; omega), Bool.or_false])) _ _ hI ls ?_
            exact lv_sub hl [1, 2, 3, 4, 0] rfl
          · have c_2 : ¬ (30 * mn + 29) < (fd j) := fun q => c_2 ((n_lt (a := (30 * mn + 29)) (b := (fd j)) (by omega) (by have := bfd j; omega)).mpr q)
            refine lv_iconst (v := 1) hx hb d_FS_hasLitres_31 (by decide) ?_
            exact f_zret C hr rfl hI ⟨by rw [hs9, decide_eq_true (show fl j = lot ∧ fk j = 2 ∧ fd j / 30 = mn from ⟨hQj.1, hQj.2, by omega⟩), Bool.or_true]; rfl, rfl⟩ hX (Nat.le_refl _) (Nat.le_refl _) d_FS_hasLitres_32
  refine lv_aload_n hx hb d_FS_hasLitres_0 rfl (lv_at hl 0 rfl) ?_
  refine lv_iload_n hx hb d_FS_hasLitres_1 rfl (lv_at hl 1 rfl) ?_
  refine lv_iconst (v := 2) hx hb d_FS_hasLitres_2 (by decide) ?_
  refine f_callq hI (f_runV C hI (c_FS_newestOf l G h _ F A fa gq nf la fl fk fd fw fv hC lot 2 blot (by decide)) gm_FS_newestOf w_612 p_FS_newestOf w_610 g_F rfl rfl rfl hl.1 rfl (Nat.le_of_ble_eq_true rfl) ⟨Nat.le_of_ble_eq_true rfl, Nat.le_of_ble_eq_true rfl⟩ d_FS_hasLitres_3 ⟨Nat.le_of_ble_eq_true rfl, Nat.le_of_ble_eq_true rfl⟩) (fun r_3 h8 H9 locs hp9 hX9 hz9 hI => ?_)
  obtain ⟨rfl, e9⟩ := hp9
  rw [e9] at hI
  clear hX9 e9
  refine f_astoreq (lv' := [(4, va_rf ((lst (lQ fl fk lot 2) nf).map fa)), (0, .ref F), (1, .int (nI lot)), (2, .int (nI (30 * mn))), (3, .int (nI (30 * mn + 29)))]) hx hb d_FS_hasLitres_6 hl (by decide) rfl (fun ls hl => ?_)
  refine J8 nf nf (Nat.le_refl _) (Nat.le_refl _) rfl _ _ hI ls ?_
  exact lv_sub hl [1, 2, 3, 4, 0] rfl
theorem gm_FA_init : gM y_FA_init b_FA_init 4 none 3 := ⟨w_582, w_20, ⟨by decide, by decide⟩, by decide +kernel⟩
set_option maxHeartbeats 4000000 in
set_option maxRecDepth 100000 in
/-- FA_init  -/
theorem c_FA_init (l : Launch) (G : gG) (h : fH) (sz : Nat) (x ow d v : Nat) (bo : Option Nat) (g_x : h x = some (12, ow, .inr (3, [.int 0, .int 0, .null, .int 0]))) : cM l y_FA_init b_FA_init 4 none { frames := 1, cells := 0, slots := 0, locals := 20 } G [.ref x, .int (nI d), .int (nI v), va_rf bo] h sz (cQv G h sz (fun h' => h' x = some (12, ow, .inr (3, [.int (nI d), .int (nI v), va_rf bo, .int (nI d)])) ∧ fF (inP 12 ow) h h')) := by
  refine f_start (by decide) (by cases bo <;> exact Nat.le_of_ble_eq_true rfl) ?_
  intro p e s m below meth c ls C hr hsz hI hl
  obtain ⟨hx, hb, hml, hown, hnm, hlk, hT, hG, hZ⟩ := id C
  have hK := hG.1
  have hX : fX h sz h := fX.rf
  have hl : lv_has ls 4 [(0, .ref x), (1, .int (nI d)), (2, .int (nI v)), (3, va_rf bo)] := hl
  have hF : fF (inP 12 ow) h h := fF.rf
  refine lv_aload_n hx hb d_FA_init_0 rfl (lv_at hl 0 rfl) ?_
  refine W.objInit hx hb hown (hT _ w_583) (hT _ w_28) (hT _ w_29) rfl (by rw [hml]; exact hl.1) rfl d_FA_init_1 (Nat.le_of_ble_eq_true rfl) (Nat.le_of_ble_eq_true rfl) ?_
  refine W.eq (g2 := F0 m 4 ls []) rfl ?_
  refine lv_aload_n hx hb d_FA_init_4 rfl (lv_at hl 0 rfl) ?_
  refine lv_iload_n hx hb d_FA_init_5 rfl (lv_at hl 1 rfl) ?_
  refine f_putF (C := "DutyRules$Fact") (T := T_FA) (N := 4) (fs' := [.int (nI d), .int 0, .null, .int 0]) (v := .int (nI d)) hx hb (fun w q => hT w (s_FA w q)) t_FA k_FA n_FA hown hK hI g_x (by decide) rfl 0 (by decide) (hT _ w_584) (fun _ q => q) rfl hnm rfl rfl rfl (Nat.le_of_ble_eq_true rfl) rfl d_FA_init_6 (fun H locs hI => ?_)
  generalize eh_1 : fU h x (12, ow, .inr (3, [.int (nI d), .int 0, .null, .int 0])) = h_1 at hI
  have hX := hX.set (e := .inr (3, [.int (nI d), .int 0, .null, .int 0])) g_x (by decide); rw [eh_1] at hX
  have hF := hF.set (e := .inr (3, [.int (nI d), .int 0, .null, .int 0])) g_x ⟨rfl, rfl⟩; rw [eh_1] at hF
  have g_x : h_1 x = some (12, ow, .inr (3, [.int (nI d), .int 0, .null, .int 0])) := (congrFun eh_1 x).symm.trans (fU_self _ _ _)
  refine lv_aload_n hx hb d_FA_init_9 rfl (lv_at hl 0 rfl) ?_
  refine lv_iload_n hx hb d_FA_init_10 rfl (lv_at hl 2 rfl) ?_
  refine f_putF (C := "DutyRules$Fact") (T := T_FA) (N := 4) (fs' := [.int (nI d), .int (nI v), .null, .int 0]) (v := .int (nI v)) hx hb (fun w q => hT w (s_FA w q)) t_FA k_FA n_FA hown hK hI g_x (by decide) rfl 1 (by decide) (hT _ w_586) (fun _ q => q) rfl hnm rfl rfl rfl (Nat.le_of_ble_eq_true rfl) rfl d_FA_init_11 (fun H locs hI => ?_)
  generalize eh_2 : fU h_1 x (12, ow, .inr (3, [.int (nI d), .int (nI v), .null, .int 0])) = h_2 at hI
  have hX := hX.set (e := .inr (3, [.int (nI d), .int (nI v), .null, .int 0])) g_x (by decide); rw [eh_2] at hX
  have hF := hF.set (e := .inr (3, [.int (nI d), .int (nI v), .null, .int 0])) g_x ⟨rfl, rfl⟩; rw [eh_2] at hF
  have g_x : h_2 x = some (12, ow, .inr (3, [.int (nI d), .int (nI v), .null, .int 0])) := (congrFun eh_2 x).symm.trans (fU_self _ _ _)
  refine lv_aload_n hx hb d_FA_init_14 rfl (lv_at hl 0 rfl) ?_
  refine f_aload_nq hx hb d_FA_init_15 rfl (lv_at hl 3 rfl) ?_
  refine f_putF (C := "DutyRules$Fact") (T := T_FA) (N := 4) (fs' := [.int (nI d), .int (nI v), va_rf bo, .int 0]) (v := va_rf bo) hx hb (fun w q => hT w (s_FA w q)) t_FA k_FA n_FA hown hK hI g_x (by decide) rfl 2 (by decide) (hT _ w_588) (fun _ q => q) rfl hnm rfl (f_rfn _ _) (f_rff _ _) (Nat.le_of_ble_eq_true rfl) rfl d_FA_init_16 (fun H locs hI => ?_)
  generalize eh_3 : fU h_2 x (12, ow, .inr (3, [.int (nI d), .int (nI v), va_rf bo, .int 0])) = h_3 at hI
  have hX := hX.set (e := .inr (3, [.int (nI d), .int (nI v), va_rf bo, .int 0])) g_x (by decide); rw [eh_3] at hX
  have hF := hF.set (e := .inr (3, [.int (nI d), .int (nI v), va_rf bo, .int 0])) g_x ⟨rfl, rfl⟩; rw [eh_3] at hF
  have g_x : h_3 x = some (12, ow, .inr (3, [.int (nI d), .int (nI v), va_rf bo, .int 0])) := (congrFun eh_3 x).symm.trans (fU_self _ _ _)
  refine lv_aload_n hx hb d_FA_init_19 rfl (lv_at hl 0 rfl) ?_
  refine lv_iload_n hx hb d_FA_init_20 rfl (lv_at hl 1 rfl) ?_
  refine f_put (C := "DutyRules$Fact") (T := T_FA) (N := 4) (fs' := [.int (nI d), .int (nI v), va_rf bo, .int (nI d)]) (v := .int (nI d)) hx hb (fun w q => hT w (s_FA w q)) t_FA k_FA n_FA hown hK hI g_x (by decide) rfl 3 (by decide) (hT _ w_590) (fun _ q => q) rfl rfl rfl (Nat.le_of_ble_eq_true rfl) rfl d_FA_init_21 (fun H locs hI => ?_)
  generalize eh_4 : fU h_3 x (12, ow, .inr (3, [.int (nI d), .int (nI v), va_rf bo, .int (nI d)])) = h_4 at hI
  have hX := hX.set (e := .inr (3, [.int (nI d), .int (nI v), va_rf bo, .int (nI d)])) g_x (by decide); rw [eh_4] at hX
  have hF := hF.set (e := .inr (3, [.int (nI d), .int (nI v), va_rf bo, .int (nI d)])) g_x ⟨rfl, rfl⟩; rw [eh_4] at hF
  have g_x : h_4 x = some (12, ow, .inr (3, [.int (nI d), .int (nI v), va_rf bo, .int (nI d)])) := (congrFun eh_4 x).symm.trans (fU_self _ _ _)
  exact f_vret C hr hI ⟨g_x, hF⟩ hX (Nat.le_refl _) (Nat.le_refl _) d_FA_init_24
theorem gm_FS_add : gM y_FS_add b_FS_add 6 (some .boolean) 4 := ⟨w_573, w_7, ⟨by decide, by decide⟩, by decide +kernel⟩
set_option maxHeartbeats 4000000 in
set_option maxRecDepth 100000 in
/-- FS_add  -/
theorem c_FS_add_full (l : Launch) (G : gG) (h : fH) (sz : Nat) (F A : Nat) (fa : Nat → Nat) (gq : Nat → Option Nat) (nf la : Nat) (fl fk fd fw fv : Nat → Nat) (hC : cFo G h F A fa gq nf la fl fk fd fw fv) (lot kind : Nat) (blot : lot < 30) (bkind : kind < 6) (d v : Nat) (bd : d ≤ 100000) (bv : v ≤ mostN kind) (hful : nf = 300) : cM l y_FS_add b_FS_add 6 (some .boolean) { frames := 2, cells := 1, slots := 4, locals := 43 } G [.ref F, .int (nI lot), .int (nI kind), .int (nI d), .int (nI v)] h sz (cQi G h sz (fun z h' => z = 0 ∧ h' = h)) := by
  refine f_start (by decide) (Nat.le_of_ble_eq_true rfl) ?_
  intro p e s m below meth c ls C hr hsz hI hl
  obtain ⟨hx, hb, hml, hown, hnm, hlk, hT, hG, hZ⟩ := id C
  have hK := hG.1
  have hX : fX h sz h := fX.rf
  have hl : lv_has ls 6 [(0, .ref F), (1, .int (nI lot)), (2, .int (nI kind)), (3, .int (nI d)), (4, .int (nI v))] := hl
  obtain ⟨g_F, g_A, hgq, hfa, bnf, bla, bfl, bfk, bfd, bfw, bfv0⟩ := id hC
  have bfv : ∀ i, fv i ≤ 100000000 := fun i => Nat.le_trans (bfv0 i) (mostN_le _)
  refine lv_iload_n hx hb d_FS_add_0 rfl (lv_at hl 1 rfl) ?_
  refine lv_iload_n hx hb d_FS_add_1 rfl (lv_at hl 2 rfl) ?_
  refine f_calli hI (f_runS C hI (c_FS_placeOf l G h _ lot kind blot bkind) gm_FS_placeOf w_575 w_574 rfl hl.1 rfl (Nat.le_of_ble_eq_true rfl) ⟨Nat.le_of_ble_eq_true rfl, Nat.le_of_ble_eq_true rfl⟩ d_FS_add_2 ⟨Nat.le_of_ble_eq_true rfl, Nat.le_of_ble_eq_true rfl⟩) (fun r_1 h8 H9 locs hp9 hX9 hz9 hI => ?_)
  obtain ⟨rfl, e9⟩ := hp9
  rw [e9] at hI
  clear hX9 e9
  refine lv_istore (lv' := [(5, .int (nI (lot * 6 + kind))), (0, .ref F), (1, .int (nI lot)), (2, .int (nI kind)), (3, .int (nI d)), (4, .int (nI v))]) hx hb d_FS_add_5 hl (by decide) rfl (fun ls hl => ?_)
  refine lv_iload hx hb d_FS_add_7 (lv_at hl 0 rfl) ?_
  refine lv_iconst (v := (-1)) hx hb d_FS_add_9 (by decide) ?_
  refine lv_icmp_eq (tgt := 23) hx hb d_FS_add_10 (by decide) (fun c_2 => absurd c_2 (n_m1 (by omega))) (fun c_2 => ?_)
  refine lv_aload_n hx hb d_FS_add_13 rfl (lv_at hl 1 rfl) ?_
  refine f_get (C := "DutyRules$Facts") (T := T_FS) (N := 3) hx hb (fun w q => hT w (s_FS w q)) hown hK hI g_F rfl 0 (by decide) (hT _ w_90) (fun _ q => q) rfl d_FS_add_14 ?_
  refine lv_sipush (v := 300) hx hb d_FS_add_17 (by decide) ?_
  refine lv_icmp_lt (tgt := 25) hx hb d_FS_add_20 (by decide) (fun c_3 => absurd c_3 (fun q => absurd ((n_lt (a := nf) (b := 300) (by omega) (by omega)).mp q) (by omega))) (fun c_3 => ?_)
  refine lv_iconst (v := 0) hx hb d_FS_add_23 (by decide) ?_
  exact f_zret C hr rfl hI ⟨rfl, rfl⟩ hX (Nat.zero_le _) (Nat.zero_le _) d_FS_add_24
set_option maxHeartbeats 4000000 in
set_option maxRecDepth 100000 in
/-- FS_add  -/
theorem c_FS_add_ok (l : Launch) (G : gG) (h : fH) (sz : Nat) (F A : Nat) (fa : Nat → Nat) (gq : Nat → Option Nat) (nf la : Nat) (fl fk fd fw fv : Nat → Nat) (hC : cFo G h F A fa gq nf la fl fk fd fw fv) (lot kind : Nat) (blot : lot < 30) (bkind : kind < 6) (d v : Nat) (bd : d ≤ 100000) (bv : v ≤ mostN kind) (bnf2 : nf < 300) : cM l y_FS_add b_FS_add 6 (some .boolean) { frames := 2, cells := 1, slots := 4, locals := 43 } G [.ref F, .int (nI lot), .int (nI kind), .int (nI d), .int (nI v)] h sz (cQi G h sz (fun z h' => z = 1 ∧ ∃ q, cFo G h' F A (va_up fa nf q) (va_up gq (lot * 6 + kind) (some q)) (nf + 1) (max la d) (va_up fl nf lot) (va_up fk nf kind) (va_up fd nf d) (va_up fw nf d) (va_up fv nf v) ∧ fF (inR [10, 11, 12]) h h')) := by
  refine f_start (by decide) (Nat.le_of_ble_eq_true rfl) ?_
  intro p e s m below meth c ls C hr hsz hI hl
  obtain ⟨hx, hb, hml, hown, hnm, hlk, hT, hG, hZ⟩ := id C
  have hK := hG.1
  have hX : fX h sz h := fX.rf
  have hl : lv_has ls 6 [(0, .ref F), (1, .int (nI lot)), (2, .int (nI kind)), (3, .int (nI d)), (4, .int (nI v))] := hl
  obtain ⟨g_F, g_A, hgq, hfa, bnf, bla, bfl, bfk, bfd, bfw, bfv0⟩ := id hC
  have bfv : ∀ i, fv i ≤ 100000000 := fun i => Nat.le_trans (bfv0 i) (mostN_le _)
  have hF : fF (inR [10, 11, 12]) h h := fF.rf
  refine lv_iload_n hx hb d_FS_add_0 rfl (lv_at hl 1 rfl) ?_
  refine lv_iload_n hx hb d_FS_add_1 rfl (lv_at hl 2 rfl) ?_
  refine f_calli hI (f_runS C hI (c_FS_placeOf l G h _ lot kind blot bkind) gm_FS_placeOf w_575 w_574 rfl hl.1 rfl (Nat.le_of_ble_eq_true rfl) ⟨Nat.le_of_ble_eq_true rfl, Nat.le_of_ble_eq_true rfl⟩ d_FS_add_2 ⟨Nat.le_of_ble_eq_true rfl, Nat.le_of_ble_eq_true rfl⟩) (fun r_1 h8 H9 locs hp9 hX9 hz9 hI => ?_)
  obtain ⟨rfl, e9⟩ := hp9
  rw [e9] at hI
  clear hX9 e9
  refine lv_istore (lv' := [(5, .int (nI (lot * 6 + kind))), (0, .ref F), (1, .int (nI lot)), (2, .int (nI kind)), (3, .int (nI d)), (4, .int (nI v))]) hx hb d_FS_add_5 hl (by decide) rfl (fun ls hl => ?_)
  refine lv_iload hx hb d_FS_add_7 (lv_at hl 0 rfl) ?_
  refine lv_iconst (v := (-1)) hx hb d_FS_add_9 (by decide) ?_
  refine lv_icmp_eq (tgt := 23) hx hb d_FS_add_10 (by decide) (fun c_2 => absurd c_2 (n_m1 (by omega))) (fun c_2 => ?_)
  refine lv_aload_n hx hb d_FS_add_13 rfl (lv_at hl 1 rfl) ?_
  refine f_get (C := "DutyRules$Facts") (T := T_FS) (N := 3) hx hb (fun w q => hT w (s_FS w q)) hown hK hI g_F rfl 0 (by decide) (hT _ w_90) (fun _ q => q) rfl d_FS_add_14 ?_
  refine lv_sipush (v := 300) hx hb d_FS_add_17 (by decide) ?_
  refine lv_icmp_lt (tgt := 25) hx hb d_FS_add_20 (by decide) (fun c_3 => ?_) (fun c_3 => absurd ((n_lt (a := nf) (b := 300) (by omega) (by omega)).mpr (by omega)) c_3)
  refine lv_aload_n hx hb d_FS_add_25 rfl (lv_at hl 1 rfl) ?_
  refine f_get (C := "DutyRules$Facts") (T := T_FS) (N := 3) hx hb (fun w q => hT w (s_FS w q)) hown hK hI g_F rfl 2 (by decide) (hT _ w_93) (fun _ q => q) rfl d_FS_add_26 ?_
  refine lv_iload hx hb d_FS_add_29 (lv_at hl 0 rfl) ?_
  have hzN := hI.2.2.2.1
  refine f_new (ci := 3) (C := "DutyRules$Fact") (T := T_FA) (N := 4) (N2 := 4) (fs := [.int 0, .int 0, .null, .int 0]) hx hb (fun w q => hT w (s_FA w q)) t_FA k_FA hown (hT _ w_88) (hT _ w_579) (hT _ w_20) hK hI rfl (fun j hj => by rcases (show j = 0 ∨ j = 1 ∨ j = 2 ∨ j = 3 by omega) with rfl | rfl | rfl | rfl <;> rfl) 12 nf (Nat.le_of_ble_eq_true rfl) (Nat.le_of_ble_eq_true rfl) d_FS_add_31 (fun q_4 H eq_4 zq_4 nq_4 hI => ?_)
  generalize eh_5 : fU h q_4 (12, nf, .inr (3, [.int 0, .int 0, .null, .int 0])) = h_5 at hI
  have hX := hX.new (e := .inr (3, [.int 0, .int 0, .null, .int 0])) (r := 12) (o := nf) nq_4 (by omega); rw [eh_5] at hX
  have hF := hF.new (c := (12, nf, .inr (3, [.int 0, .int 0, .null, .int 0]))) nq_4; rw [eh_5] at hF
  have hW9 : fF (inR []) h h_5 := by rw [← eh_5]; exact fF.rf.new nq_4
  have hfa := (show ∀ i, i < nf → h_5 (fa i) = some (fcc fl fk fd fw fv fa i) from fun i hi => hW9 _ _ _ _ (hfa i hi) (by show ¬ _ ∈ _; decide))
  have g_F : h_5 F = some (10, 0, .inr (4, [.int (nI nf), .int (nI la), .ref A])) := (congrFun eh_5 F).symm.trans (fU_keep g_F (f_neN g_F nq_4))
  have g_A : h_5 A = some (11, 0, .inl ((G.2.1 5), 180, .inr (.inr (.inr (.inr gq))))) := (congrFun eh_5 A).symm.trans (fU_keep g_A (f_neN g_A nq_4))
  have g_q_4 : h_5 q_4 = some (12, nf, .inr (3, [.int 0, .int 0, .null, .int 0])) := (congrFun eh_5 q_4).symm.trans (fU_self _ _ _)
  refine lv_dup hx hb d_FS_add_34 rfl ?_
  refine lv_iload_n hx hb d_FS_add_35 rfl (lv_at hl 4 rfl) ?_
  refine lv_iload hx hb d_FS_add_36 (lv_at hl 5 rfl) ?_
  refine lv_aload_n hx hb d_FS_add_38 rfl (lv_at hl 1 rfl) ?_
  refine f_get (C := "DutyRules$Facts") (T := T_FS) (N := 3) hx hb (fun w q => hT w (s_FS w q)) hown hK hI g_F rfl 2 (by decide) (hT _ w_93) (fun _ q => q) rfl d_FS_add_39 ?_
  refine lv_iload hx hb d_FS_add_42 (lv_at hl 0 rfl) ?_
  refine f_aaldn (k := (lot * 6 + kind)) (v := ((lst (lQ fl fk lot kind) nf).map fa)) hx hb hI g_A (fT.ofK hK (t0 := 5) rfl) (by omega) (by omega) (hgq lot kind blot bkind) d_FS_add_44 ?_
  have hzA := hI.2.2.2.1
  refine f_callv hI (f_runI C hI (c_FA_init l G h_5 _ q_4 nf d v ((lst (lQ fl fk lot kind) nf).map fa) g_q_4) gm_FA_init w_581 rfl w_580 rfl hl.1 rfl (Nat.le_of_ble_eq_true rfl) ⟨Nat.le_of_ble_eq_true rfl, Nat.le_of_ble_eq_true rfl⟩ d_FS_add_45 ⟨Nat.le_of_ble_eq_true rfl, Nat.le_of_ble_eq_true rfl⟩) (fun h9 H9 locs hp9 hX9 hz9 hI => ?_)
  obtain ⟨g_q_4, hF9⟩ := hp9
  have hX := fX.tr (Nat.le_trans (Nat.le_of_eq hsz.symm) hzA) hX hX9
  have g_F := hF9 _ _ _ _ g_F (by simp [inP])
  have g_A := hF9 _ _ _ _ g_A (by simp [inP])
  have hfa : ∀ i, i < nf → h9 (fa i) = some (fcc fl fk fd fw fv fa i) := fun i hi => hF9 _ _ _ _ (hfa i hi) (fun q => by have := q.2; omega)
  have hF := hF.tr (hF9.mono (fun r9 _ q => (by rw [q.1]; show 12 ∈ [10, 11, 12]; decide : inR [10, 11, 12] r9 _)))
  refine f_aastn (k := (lot * 6 + kind)) (ci := 3) hx hb hK hI g_A (by decide) (t0 := 5) rfl g_q_4 (by decide) rfl (by omega) (by omega) d_FS_add_48 (fun H locs hI => ?_)
  generalize eh_7 : fU h9 A (11, 0, .inl ((G.2.1 5), 180, .inr (.inr (.inr (.inr (va_up gq (lot * 6 + kind) (some q_4))))))) = h_7 at hI
  have hX := hX.set (e := .inl ((G.2.1 5), 180, .inr (.inr (.inr (.inr (va_up gq (lot * 6 + kind) (some q_4))))))) g_A (by decide); rw [eh_7] at hX
  have hF := hF.set (e := .inl ((G.2.1 5), 180, .inr (.inr (.inr (.inr (va_up gq (lot * 6 + kind) (some q_4))))))) g_A (by decide); rw [eh_7] at hF
  have g_F : h_7 F = some (10, 0, .inr (4, [.int (nI nf), .int (nI la), .ref A])) := (congrFun eh_7 F).symm.trans (fU_keep g_F (f_neR g_F g_A (by decide)))
  have g_q_4 : h_7 q_4 = some (12, nf, .inr (3, [.int (nI d), .int (nI v), va_rf ((lst (lQ fl fk lot kind) nf).map fa), .int (nI d)])) := (congrFun eh_7 q_4).symm.trans (fU_keep g_q_4 (f_neR g_q_4 g_A (by decide)))
  have hW9 : fF (inR [11]) h9 h_7 := by rw [← eh_7]; exact fF.rf.set g_A (by show _ ∈ _; decide)
  have hfa := (show ∀ i, i < nf → h_7 (fa i) = some (fcc fl fk fd fw fv fa i) from fun i hi => hW9 _ _ _ _ (hfa i hi) (by show ¬ _ ∈ _; decide))
  have g_A : h_7 A = some (11, 0, .inl ((G.2.1 5), 180, .inr (.inr (.inr (.inr (va_up gq (lot * 6 + kind) (some q_4))))))) := (congrFun eh_7 A).symm.trans (fU_self _ _ _)
  refine lv_aload_n hx hb d_FS_add_49 rfl (lv_at hl 1 rfl) ?_
  refine lv_dup hx hb d_FS_add_50 rfl ?_
  refine f_get (C := "DutyRules$Facts") (T := T_FS) (N := 3) hx hb (fun w q => hT w (s_FS w q)) hown hK hI g_F rfl 0 (by decide) (hT _ w_90) (fun _ q => q) rfl d_FS_add_51 ?_
  refine lv_iconst (v := 1) hx hb d_FS_add_54 (by decide) ?_
  refine lv_iadd hx hb d_FS_add_55 ?_
  refine f_asi (nI_add nf 1) ?_
  refine f_put (C := "DutyRules$Facts") (T := T_FS) (N := 3) (fs' := [.int (nI (nf + 1)), .int (nI la), .ref A]) (v := .int (nI (nf + 1))) hx hb (fun w q => hT w (s_FS w q)) t_FS k_FS n_FS hown hK hI g_F (by decide) rfl 0 (by decide) (hT _ w_90) (fun _ q => q) rfl rfl rfl (Nat.le_of_ble_eq_true rfl) rfl d_FS_add_56 (fun H locs hI => ?_)
  generalize eh_8 : fU h_7 F (10, 0, .inr (4, [.int (nI (nf + 1)), .int (nI la), .ref A])) = h_8 at hI
  have hX := hX.set (e := .inr (4, [.int (nI (nf + 1)), .int (nI la), .ref A])) g_F (by decide); rw [eh_8] at hX
  have hF := hF.set (e := .inr (4, [.int (nI (nf + 1)), .int (nI la), .ref A])) g_F (by decide); rw [eh_8] at hF
  have g_A : h_8 A = some (11, 0, .inl ((G.2.1 5), 180, .inr (.inr (.inr (.inr (va_up gq (lot * 6 + kind) (some q_4))))))) := (congrFun eh_8 A).symm.trans (fU_keep g_A (f_neR g_A g_F (by decide)))
  have g_q_4 : h_8 q_4 = some (12, nf, .inr (3, [.int (nI d), .int (nI v), va_rf ((lst (lQ fl fk lot kind) nf).map fa), .int (nI d)])) := (congrFun eh_8 q_4).symm.trans (fU_keep g_q_4 (f_neR g_q_4 g_F (by decide)))
  have hW9 : fF (inR [10]) h_7 h_8 := by rw [← eh_8]; exact fF.rf.set g_F (by show _ ∈ _; decide)
  have hfa := (show ∀ i, i < nf → h_8 (fa i) = some (fcc fl fk fd fw fv fa i) from fun i hi => hW9 _ _ _ _ (hfa i hi) (by show ¬ _ ∈ _; decide))
  have g_F : h_8 F = some (10, 0, .inr (4, [.int (nI (nf + 1)), .int (nI la), .ref A])) := (congrFun eh_8 F).symm.trans (fU_self _ _ _)
  refine lv_aload_n hx hb d_FS_add_59 rfl (lv_at hl 1 rfl) ?_
  refine lv_aload_n hx hb d_FS_add_60 rfl (lv_at hl 1 rfl) ?_
  refine f_get (C := "DutyRules$Facts") (T := T_FS) (N := 3) hx hb (fun w q => hT w (s_FS w q)) hown hK hI g_F rfl 1 (by decide) (hT _ w_91) (fun _ q => q) rfl d_FS_add_61 ?_
  refine lv_iload_n hx hb d_FS_add_64 rfl (lv_at hl 4 rfl) ?_
  refine va_mmax hx hb (hml.trans hl.1.symm) hown (hT _ w_601) (hT _ w_224) (hT _ w_12) (hT _ w_225) (Nat.le_of_ble_eq_true rfl) (Nat.le_of_ble_eq_true rfl) (by first | exact Nat.le_of_ble_eq_true rfl | ((try dsimp only); omega)) (by first | exact Nat.le_of_ble_eq_true rfl | ((try dsimp only); omega)) d_FS_add_65 ?_
  refine f_asi (mx_m (a := la) (b := d) (by omega) (by omega)) ?_
  refine f_put (C := "DutyRules$Facts") (T := T_FS) (N := 3) (fs' := [.int (nI (nf + 1)), .int (nI (max la d)), .ref A]) (v := .int (nI (max la d))) hx hb (fun w q => hT w (s_FS w q)) t_FS k_FS n_FS hown hK hI g_F (by decide) rfl 1 (by decide) (hT _ w_91) (fun _ q => q) rfl rfl rfl (Nat.le_of_ble_eq_true rfl) rfl d_FS_add_68 (fun H locs hI => ?_)
  generalize eh_9 : fU h_8 F (10, 0, .inr (4, [.int (nI (nf + 1)), .int (nI (max la d)), .ref A])) = h_9 at hI
  have hX := hX.set (e := .inr (4, [.int (nI (nf + 1)), .int (nI (max la d)), .ref A])) g_F (by decide); rw [eh_9] at hX
  have hF := hF.set (e := .inr (4, [.int (nI (nf + 1)), .int (nI (max la d)), .ref A])) g_F (by decide); rw [eh_9] at hF
  have g_A : h_9 A = some (11, 0, .inl ((G.2.1 5), 180, .inr (.inr (.inr (.inr (va_up gq (lot * 6 + kind) (some q_4))))))) := (congrFun eh_9 A).symm.trans (fU_keep g_A (f_neR g_A g_F (by decide)))
  have g_q_4 : h_9 q_4 = some (12, nf, .inr (3, [.int (nI d), .int (nI v), va_rf ((lst (lQ fl fk lot kind) nf).map fa), .int (nI d)])) := (congrFun eh_9 q_4).symm.trans (fU_keep g_q_4 (f_neR g_q_4 g_F (by decide)))
  have hW9 : fF (inR [10]) h_8 h_9 := by rw [← eh_9]; exact fF.rf.set g_F (by show _ ∈ _; decide)
  have hfa := (show ∀ i, i < nf → h_9 (fa i) = some (fcc fl fk fd fw fv fa i) from fun i hi => hW9 _ _ _ _ (hfa i hi) (by show ¬ _ ∈ _; decide))
  have g_F : h_9 F = some (10, 0, .inr (4, [.int (nI (nf + 1)), .int (nI (max la d)), .ref A])) := (congrFun eh_9 F).symm.trans (fU_self _ _ _)
  refine lv_iconst (v := 1) hx hb d_FS_add_71 (by decide) ?_
  exact f_zret C hr rfl hI ⟨rfl, q_4, cFo_add g_F g_A hgq hfa g_q_4 bnf2 bla bfl bfk bfd bfw bfv0 blot bkind bd bv, hF⟩ hX (Nat.le_of_ble_eq_true rfl) (Nat.le_of_ble_eq_true rfl) d_FS_add_72
theorem gm_FS_learnNewest : gM y_FS_learnNewest b_FS_learnNewest 5 (some .boolean) 3 := ⟨w_609, w_7, ⟨by decide, by decide⟩, by decide +kernel⟩
set_option maxHeartbeats 4000000 in
set_option maxRecDepth 100000 in
/-- FS_learnNewest  -/
theorem c_FS_learnNewest_no (l : Launch) (G : gG) (h : fH) (sz : Nat) (F A : Nat) (fa : Nat → Nat) (gq : Nat → Option Nat) (nf la : Nat) (fl fk fd fw fv : Nat → Nat) (hC : cFo G h F A fa gq nf la fl fk fd fw fv) (lot kind : Nat) (blot : lot < 30) (bkind : kind < 6) (on : Nat) (bon : on ≤ 100000) (eL : lst (lQ fl fk lot kind) nf = none) : cM l y_FS_learnNewest b_FS_learnNewest 5 (some .boolean) { frames := 3, cells := 0, slots := 0, locals := 64 } G [.ref F, .int (nI lot), .int (nI kind), .int (nI on)] h sz (cQi G h sz (fun z h' => z = 0 ∧ h' = h)) := by
  refine f_start (by decide) (Nat.le_of_ble_eq_true rfl) ?_
  intro p e s m below meth c ls C hr hsz hI hl
  obtain ⟨hx, hb, hml, hown, hnm, hlk, hT, hG, hZ⟩ := id C
  have hK := hG.1
  have hX : fX h sz h := fX.rf
  have hl : lv_has ls 5 [(0, .ref F), (1, .int (nI lot)), (2, .int (nI kind)), (3, .int (nI on))] := hl
  obtain ⟨g_F, g_A, hgq, hfa, bnf, bla, bfl, bfk, bfd, bfw, bfv0⟩ := id hC
  have bfv : ∀ i, fv i ≤ 100000000 := fun i => Nat.le_trans (bfv0 i) (mostN_le _)
  have hF : fF (inR [10, 12]) h h := fF.rf
  refine lv_aload_n hx hb d_FS_learnNewest_0 rfl (lv_at hl 0 rfl) ?_
  refine lv_iload_n hx hb d_FS_learnNewest_1 rfl (lv_at hl 1 rfl) ?_
  refine lv_iload_n hx hb d_FS_learnNewest_2 rfl (lv_at hl 2 rfl) ?_
  refine f_callq hI (f_runV C hI (c_FS_newestOf l G h _ F A fa gq nf la fl fk fd fw fv hC lot kind blot bkind) gm_FS_newestOf w_612 p_FS_newestOf w_610 g_F rfl rfl rfl hl.1 rfl (Nat.le_of_ble_eq_true rfl) ⟨Nat.le_of_ble_eq_true rfl, Nat.le_of_ble_eq_true rfl⟩ d_FS_learnNewest_3 ⟨Nat.le_of_ble_eq_true rfl, Nat.le_of_ble_eq_true rfl⟩) (fun r_1 h9 H9 locs hp9 hX9 hz9 hI => ?_)
  obtain ⟨rfl, e9⟩ := hp9
  rw [e9] at hI
  clear hX9 e9
  rw [eL]
  show W _ _ _ _ _ _ _ _ _ _ _ _ _ _ _ (F0 m _ ls [.null])
  refine lv_astoreN (lv' := [(4, .null), (0, .ref F), (1, .int (nI lot)), (2, .int (nI kind)), (3, .int (nI on))]) hx hb d_FS_learnNewest_6 hl (by decide) rfl (fun ls hl => ?_)
  refine lv_aloadN hx hb d_FS_learnNewest_8 (lv_at hl 0 rfl) ?_
  refine lv_ifnonnullN hx hb d_FS_learnNewest_10 ?_
  refine lv_iconst (v := 0) hx hb d_FS_learnNewest_13 (by decide) ?_
  exact f_zret C hr rfl hI ⟨rfl, rfl⟩ hX (Nat.le_refl _) (Nat.le_refl _) d_FS_learnNewest_14
set_option maxHeartbeats 4000000 in
set_option maxRecDepth 100000 in
/-- FS_learnNewest  -/
theorem c_FS_learnNewest_ok (l : Launch) (G : gG) (h : fH) (sz : Nat) (F A : Nat) (fa : Nat → Nat) (gq : Nat → Option Nat) (nf la : Nat) (fl fk fd fw fv : Nat → Nat) (hC : cFo G h F A fa gq nf la fl fk fd fw fv) (lot kind : Nat) (blot : lot < 30) (bkind : kind < 6) (on : Nat) (bon : on ≤ 100000) (j : Nat) (eL : lst (lQ fl fk lot kind) nf = some j) : cM l y_FS_learnNewest b_FS_learnNewest 5 (some .boolean) { frames := 3, cells := 0, slots := 0, locals := 64 } G [.ref F, .int (nI lot), .int (nI kind), .int (nI on)] h sz (cQi G h sz (fun z h' => z = 1 ∧ cFo G h' F A fa gq nf (max la on) fl fk fd (va_up fw j on) fv ∧ fF (inR [10, 12]) h h')) := by
  refine f_start (by decide) (Nat.le_of_ble_eq_true rfl) ?_
  intro p e s m below meth c ls C hr hsz hI hl
  obtain ⟨hx, hb, hml, hown, hnm, hlk, hT, hG, hZ⟩ := id C
  have hK := hG.1
  have hX : fX h sz h := fX.rf
  have hl : lv_has ls 5 [(0, .ref F), (1, .int (nI lot)), (2, .int (nI kind)), (3, .int (nI on))] := hl
  obtain ⟨g_F, g_A, hgq, hfa, bnf, bla, bfl, bfk, bfd, bfw, bfv0⟩ := id hC
  have bfv : ∀ i, fv i ≤ 100000000 := fun i => Nat.le_trans (bfv0 i) (mostN_le _)
  have hF : fF (inR [10, 12]) h h := fF.rf
  have hj := (lst_in eL).1
  have hQj := (lst_in eL).2
  simp only [lQ, decide_eq_true_eq] at hQj
  have g_j := hfa j hj
  unfold fcc at g_j
  refine lv_aload_n hx hb d_FS_learnNewest_0 rfl (lv_at hl 0 rfl) ?_
  refine lv_iload_n hx hb d_FS_learnNewest_1 rfl (lv_at hl 1 rfl) ?_
  refine lv_iload_n hx hb d_FS_learnNewest_2 rfl (lv_at hl 2 rfl) ?_
  refine f_callq hI (f_runV C hI (c_FS_newestOf l G h _ F A fa gq nf la fl fk fd fw fv hC lot kind blot bkind) gm_FS_newestOf w_612 p_FS_newestOf w_610 g_F rfl rfl rfl hl.1 rfl (Nat.le_of_ble_eq_true rfl) ⟨Nat.le_of_ble_eq_true rfl, Nat.le_of_ble_eq_true rfl⟩ d_FS_learnNewest_3 ⟨Nat.le_of_ble_eq_true rfl, Nat.le_of_ble_eq_true rfl⟩) (fun r_1 h9 H9 locs hp9 hX9 hz9 hI => ?_)
  obtain ⟨rfl, e9⟩ := hp9
  rw [e9] at hI
  clear hX9 e9
  rw [eL]
  show W _ _ _ _ _ _ _ _ _ _ _ _ _ _ _ (F0 m _ ls [.ref (fa j)])
  refine lv_astore (lv' := [(4, .ref (fa j)), (0, .ref F), (1, .int (nI lot)), (2, .int (nI kind)), (3, .int (nI on))]) hx hb d_FS_learnNewest_6 hl (by decide) rfl (fun ls hl => ?_)
  refine lv_aload hx hb d_FS_learnNewest_8 (lv_at hl 0 rfl) ?_
  refine lv_ifnonnull (tgt := 15) hx hb d_FS_learnNewest_10 (by decide) ?_
  refine lv_aload hx hb d_FS_learnNewest_15 (lv_at hl 0 rfl) ?_
  refine lv_iload_n hx hb d_FS_learnNewest_17 rfl (lv_at hl 4 rfl) ?_
  refine f_putN (C := "DutyRules$Fact") (T := T_FA) (N := 4) (fs' := [.int (nI (fd j)), .int (nI (fv j)), va_rf ((lst (lQ fl fk (fl j) (fk j)) j).map fa), .int (nI on)]) (v := .int (nI on)) hx hb (fun w q => hT w (s_FA w q)) t_FA k_FA n_FA hown hK hI g_j (by decide) rfl 3 (by decide) (hG.2.1 _ w_591) (fun _ q => q) rfl rfl rfl (Nat.le_of_ble_eq_true rfl) rfl d_FS_learnNewest_18 (fun H locs hI => ?_)
  generalize eh_2 : fU h (fa j) (12, j, .inr (3, [.int (nI (fd j)), .int (nI (fv j)), va_rf ((lst (lQ fl fk (fl j) (fk j)) j).map fa), .int (nI on)])) = h_2 at hI
  have hX := hX.set (e := .inr (3, [.int (nI (fd j)), .int (nI (fv j)), va_rf ((lst (lQ fl fk (fl j) (fk j)) j).map fa), .int (nI on)])) g_j (by decide); rw [eh_2] at hX
  have hF := hF.set (e := .inr (3, [.int (nI (fd j)), .int (nI (fv j)), va_rf ((lst (lQ fl fk (fl j) (fk j)) j).map fa), .int (nI on)])) g_j (by show _ ∈ _; decide); rw [eh_2] at hF
  have g_F : h_2 F = some (10, 0, .inr (4, [.int (nI nf), .int (nI la), .ref A])) := (congrFun eh_2 F).symm.trans (fU_keep g_F (f_neR g_F g_j (by decide)))
  have g_A : h_2 A = some (11, 0, .inl ((G.2.1 5), 180, .inr (.inr (.inr (.inr gq))))) := (congrFun eh_2 A).symm.trans (fU_keep g_A (f_neR g_A g_j (by decide)))
  have hW9 : fF (inR [12]) h h_2 := by rw [← eh_2]; exact fF.rf.set g_j (by show _ ∈ _; decide)
  have hfj := (show ∀ i, i < nf → i ≠ j → h_2 (fa i) = some (fcc fl fk fd fw fv fa i) from fun i hi hij => by rw [← eh_2]; exact fU_keep (hfa i hi) (f_neO (hfa i hi) (hfa j hj) hij))
  have g_j : h_2 (fa j) = some (12, j, .inr (3, [.int (nI (fd j)), .int (nI (fv j)), va_rf ((lst (lQ fl fk (fl j) (fk j)) j).map fa), .int (nI on)])) := (congrFun eh_2 (fa j)).symm.trans (fU_self _ _ _)
  refine lv_aload_n hx hb d_FS_learnNewest_21 rfl (lv_at hl 1 rfl) ?_
  refine lv_aload_n hx hb d_FS_learnNewest_22 rfl (lv_at hl 1 rfl) ?_
  refine f_get (C := "DutyRules$Facts") (T := T_FS) (N := 3) hx hb (fun w q => hT w (s_FS w q)) hown hK hI g_F rfl 1 (by decide) (hT _ w_91) (fun _ q => q) rfl d_FS_learnNewest_23 ?_
  refine lv_iload_n hx hb d_FS_learnNewest_26 rfl (lv_at hl 4 rfl) ?_
  refine va_mmax hx hb (hml.trans hl.1.symm) hown (hT _ w_601) (hT _ w_224) (hT _ w_12) (hT _ w_225) (Nat.le_of_ble_eq_true rfl) (Nat.le_of_ble_eq_true rfl) (by first | exact Nat.le_of_ble_eq_true rfl | ((try dsimp only); omega)) (by first | exact Nat.le_of_ble_eq_true rfl | ((try dsimp only); omega)) d_FS_learnNewest_27 ?_
  refine f_asi (mx_m (a := la) (b := on) (by omega) (by omega)) ?_
  refine f_put (C := "DutyRules$Facts") (T := T_FS) (N := 3) (fs' := [.int (nI nf), .int (nI (max la on)), .ref A]) (v := .int (nI (max la on))) hx hb (fun w q => hT w (s_FS w q)) t_FS k_FS n_FS hown hK hI g_F (by decide) rfl 1 (by decide) (hT _ w_91) (fun _ q => q) rfl rfl rfl (Nat.le_of_ble_eq_true rfl) rfl d_FS_learnNewest_30 (fun H locs hI => ?_)
  generalize eh_3 : fU h_2 F (10, 0, .inr (4, [.int (nI nf), .int (nI (max la on)), .ref A])) = h_3 at hI
  have hX := hX.set (e := .inr (4, [.int (nI nf), .int (nI (max la on)), .ref A])) g_F (by decide); rw [eh_3] at hX
  have hF := hF.set (e := .inr (4, [.int (nI nf), .int (nI (max la on)), .ref A])) g_F (by decide); rw [eh_3] at hF
  have g_A : h_3 A = some (11, 0, .inl ((G.2.1 5), 180, .inr (.inr (.inr (.inr gq))))) := (congrFun eh_3 A).symm.trans (fU_keep g_A (f_neR g_A g_F (by decide)))
  have g_j : h_3 (fa j) = some (12, j, .inr (3, [.int (nI (fd j)), .int (nI (fv j)), va_rf ((lst (lQ fl fk (fl j) (fk j)) j).map fa), .int (nI on)])) := (congrFun eh_3 (fa j)).symm.trans (fU_keep g_j (f_neR g_j g_F (by decide)))
  have hW9 : fF (inR [10]) h_2 h_3 := by rw [← eh_3]; exact fF.rf.set g_F (by show _ ∈ _; decide)
  have hfj := (show ∀ i, i < nf → i ≠ j → h_3 (fa i) = some (fcc fl fk fd fw fv fa i) from fun i hi hij => hW9 _ _ _ _ (hfj i hi hij) (by show ¬ _ ∈ _; decide))
  have g_F : h_3 F = some (10, 0, .inr (4, [.int (nI nf), .int (nI (max la on)), .ref A])) := (congrFun eh_3 F).symm.trans (fU_self _ _ _)
  refine lv_iconst (v := 1) hx hb d_FS_learnNewest_33 (by decide) ?_
  exact f_zret C hr rfl hI ⟨rfl, cFo_told g_F g_A hgq hfj g_j bnf bla bfl bfk bfd bfw bfv0 bon, hF⟩ hX (Nat.le_refl _) (Nat.le_refl _) d_FS_learnNewest_34
