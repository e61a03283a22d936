theorem gm_MO_holds : gM y_MO_holds b_MO_holds 10 (some .int) 4 := ⟨w_1029, w_10, ⟨by decide, by decide⟩, by decide +kernel⟩
set_option maxHeartbeats 4000000 in
set_option maxRecDepth 100000 in
/-- MO_holds  -/
theorem c_MO_holds (l : Launch) (G : gG) (h : fH) (sz : Nat) (x nf lot kind day on : Nat) (fl fk fd fw fv : Nat → Nat) (mf : Nat → Value) (g_x : h x = some (40, 0, .inr (8, mo mf))) (hFc : mFc G h mf nf fl fk fd fw fv) (blot : lot < 2 ^ 31) (bkind : kind < 2 ^ 31) (bday : day < 2 ^ 31) (bon : on < 2 ^ 31) : cM l y_MO_holds b_MO_holds 10 (some .int) { frames := 0, cells := 0, slots := 0, locals := 0 } G [.ref x, .int (nI lot), .int (nI kind), .long (lN day), .long (lN on)] h sz (cQi G h sz (fun r h' => r = bI (hk fl fk fd fw lot kind day on nf) ∧ h' = h)) := by
  refine f_start (by decide) (Nat.le_of_ble_eq_true rfl) ?_
  intro p e s m below meth c ls C hr hsz hI hl
  obtain ⟨hx, hb, hml, hown, hnm, hlk, hT, hG, hZ⟩ := id C
  have hK := hG.1
  have hX : fX h sz h := fX.rf
  have hl : lv_has ls 10 [(0, .ref x), (1, .int (nI lot)), (2, .int (nI kind)), (3, .long (lN day)), (5, .long (lN on))] := hl
  obtain ⟨a7, a8, a9, a10, a11, ⟨v_7, v_8, v_9, v_10, v_11, v_12⟩, ⟨g_a7, g_a8, g_a9, g_a10, g_a11⟩, bnf, bfl, bfk, bfd, bfw, bfv0⟩ := hFc
  have bfv : ∀ i, fv i ≤ 100000000 := fun i => Nat.le_trans (bfv0 i) (mostN_le _)
  have LOOP : ∀ (k n : Nat), n + k = nf → ∀ ls : Array Slot, lv_has ls 10 [(0, .ref x), (1, .int (nI lot)), (2, .int (nI kind)), (3, .long (lN day)), (5, .long (lN on)), (7, .int (bI (hk fl fk fd fw lot kind day on n))), (8, .int (nI n))] → W p l e { frames := 0, cells := 0, slots := 0, locals := 0 } s m ([.ref x, .int (nI lot), .int (nI kind), .long (lN day), .long (lN on)] : List Value).toArray below meth c s.heap [] 0 0 (MQ below (cQi G h sz (fun r h' => r = bI (hk fl fk fd fw lot kind day on nf) ∧ h' = h)) ([.ref x, .int (nI lot), .int (nI kind), .long (lN day), .long (lN on)] : List Value).toArray s 0 0 (fA h sz)) (F0 m 6 ls []) := by
    intro k
    induction k with
    | zero =>
      intro n hn ls hl
      refine lv_iload hx hb d_MO_holds_6 (lv_at hl 6 rfl) ?_
      refine lv_aload_n hx hb d_MO_holds_8 rfl (lv_at hl 0 rfl) ?_
      refine f_get (C := "DutyRulesModel") (T := T_MO) (N := 40) hx hb (fun w q => hT w (s_MO w q)) hown hK hI g_x rfl 12 (by decide) (hT _ w_821) (fun _ q => q) (mo_get (by decide) v_12) d_MO_holds_9 ?_
      refine lv_icmp_ge (tgt := 113) hx hb d_MO_holds_12 (by decide) (fun c_1 => ?_) (fun c_1 => absurd ((n_le (by omega) (by omega)).mpr (by omega)) c_1)
      refine lv_iload hx hb d_MO_holds_113 (lv_at hl 5 rfl) ?_
      exact f_iret C hr hI ⟨by rw [show n = nf by omega], rfl⟩ hX (Nat.le_refl _) (Nat.le_refl _) d_MO_holds_115
    | succ k ih =>
      intro n hn ls hl
      have hn2 : n < nf := by omega
      have ih : ∀ n : Nat, n + k = nf → ∀ ls : Array Slot, lv_has ls 10 [(0, .ref x), (1, .int (nI lot)), (2, .int (nI kind)), (3, .long (lN day)), (5, .long (lN on)), (7, .int (bI (hk fl fk fd fw lot kind day on n))), (8, .int (nI n))] → W p l e { frames := 0, cells := 0, slots := 0, locals := 0 } s m ([.ref x, .int (nI lot), .int (nI kind), .long (lN day), .long (lN on)] : List Value).toArray below meth c s.heap [] 0 0 (MQ below (cQi G h sz (fun r h' => r = bI (hk fl fk fd fw lot kind day on nf) ∧ h' = h)) ([.ref x, .int (nI lot), .int (nI kind), .long (lN day), .long (lN on)] : List Value).toArray s 0 0 (fA h sz)) (F0 m 6 ls []) := ih
      rcases hk_ix (fl := fl) (fk := fk) (fd := fd) (fw := fw) (lot := lot) (kind := kind) (day := day) (on := on) n with e0 | ⟨i, hi1, ei, hi3⟩
      · rw [e0, bI_0] at hl
        refine lv_iload hx hb d_MO_holds_6 (lv_at hl 6 rfl) ?_
        refine lv_aload_n hx hb d_MO_holds_8 rfl (lv_at hl 0 rfl) ?_
        refine f_get (C := "DutyRulesModel") (T := T_MO) (N := 40) hx hb (fun w q => hT w (s_MO w q)) hown hK hI g_x rfl 12 (by decide) (hT _ w_821) (fun _ q => q) (mo_get (by decide) v_12) d_MO_holds_9 ?_
        refine lv_icmp_ge (tgt := 113) hx hb d_MO_holds_12 (by decide) (fun c_1 => absurd c_1 (fun q => absurd ((n_le (by omega) (by omega)).mp q) (by omega))) (fun c_1 => ?_)
        refine lv_aload_n hx hb d_MO_holds_15 rfl (lv_at hl 0 rfl) ?_
        refine f_get (C := "DutyRulesModel") (T := T_MO) (N := 40) hx hb (fun w q => hT w (s_MO w q)) hown hK hI g_x rfl 7 (by decide) (hT _ w_816) (fun _ q => q) (mo_get (by decide) v_7) d_MO_holds_16 ?_
        refine lv_iload hx hb d_MO_holds_19 (lv_at hl 6 rfl) ?_
        refine f_ialdn (k := n) (v := (nI (fl n))) hx hb hI g_a7 (fT.ofK hK (t0 := 0) rfl) (by omega) (by omega) rfl d_MO_holds_21 ?_
        refine lv_iload_n hx hb d_MO_holds_22 rfl (lv_at hl 1 rfl) ?_
        refine lv_icmp_ne (tgt := 66) hx hb d_MO_holds_23 (by decide) (fun c_2 => ?_) (fun c_2 => ?_)
        · have c_2 : ¬ (fl n) = lot := fun q => c_2 ((n_eq (a := (fl n)) (b := lot) (by have := bfl n; omega) (by omega)).mpr q)
          refine lv_iconst (v := 0) hx hb d_MO_holds_66 (by decide) ?_
          refine lv_istore (lv' := [(9, .int 0), (0, .ref x), (1, .int (nI lot)), (2, .int (nI kind)), (3, .long (lN day)), (5, .long (lN on)), (7, .int (-1)), (8, .int (nI n))]) hx hb d_MO_holds_67 hl (by decide) rfl (fun ls hl => ?_)
          refine lv_iload hx hb d_MO_holds_69 (lv_at hl 0 rfl) ?_
          refine lv_if_eq (tgt := 103) hx hb d_MO_holds_71 (by decide) (fun c_3 => ?_) (fun c_3 => absurd (by decide) c_3)
          refine lv_iload hx hb d_MO_holds_103 (lv_at hl 6 rfl) ?_
          refine lv_istore (lv' := [(7, .int (-1)), (9, .int 0), (0, .ref x), (1, .int (nI lot)), (2, .int (nI kind)), (3, .long (lN day)), (5, .long (lN on)), (8, .int (nI n))]) hx hb d_MO_holds_105 hl (by decide) rfl (fun ls hl => ?_)
          refine lv_iinc (v := nI (n + 1)) (lv' := [(8, .int (nI (n + 1))), (7, .int (-1)), (9, .int 0), (0, .ref x), (1, .int (nI lot)), (2, .int (nI kind)), (3, .long (lN day)), (5, .long (lN on))]) hx hb d_MO_holds_107 hl (k := 7) rfl (f_inc1 _) (by decide) rfl (fun ls hl => ?_)
          refine lv_goto (tgt := 6) hx hb d_MO_holds_110 (by decide) ?_
          refine ih (n + 1) (by omega) ls ?_
          have e9 : hk fl fk fd fw lot kind day on (n + 1) = hk fl fk fd fw lot kind day on n := hk_no (fun q => by obtain ⟨q1, q2, q3, q4⟩ := q; omega)
          rw [e9]
          rw [e0, bI_0]
          exact lv_sub hl [3, 4, 5, 6, 7, 1, 0] rfl
        · have c_2 : (fl n) = lot := (n_eq (a := (fl n)) (b := lot) (by have := bfl n; omega) (by omega)).mp c_2
          refine lv_aload_n hx hb d_MO_holds_26 rfl (lv_at hl 0 rfl) ?_
          refine f_get (C := "DutyRulesModel") (T := T_MO) (N := 40) hx hb (fun w q => hT w (s_MO w q)) hown hK hI g_x rfl 8 (by decide) (hT _ w_817) (fun _ q => q) (mo_get (by decide) v_8) d_MO_holds_27 ?_
          refine lv_iload hx hb d_MO_holds_30 (lv_at hl 6 rfl) ?_
          refine f_ialdn (k := n) (v := (nI (fk n))) hx hb hI g_a8 (fT.ofK hK (t0 := 0) rfl) (by omega) (by omega) rfl d_MO_holds_32 ?_
          refine lv_iload_n hx hb d_MO_holds_33 rfl (lv_at hl 2 rfl) ?_
          refine lv_icmp_ne (tgt := 66) hx hb d_MO_holds_34 (by decide) (fun c_4 => ?_) (fun c_4 => ?_)
          · have c_4 : ¬ (fk n) = kind := fun q => c_4 ((n_eq (a := (fk n)) (b := kind) (by have := bfk n; omega) (by omega)).mpr q)
            refine lv_iconst (v := 0) hx hb d_MO_holds_66 (by decide) ?_
            refine lv_istore (lv' := [(9, .int 0), (0, .ref x), (1, .int (nI lot)), (2, .int (nI kind)), (3, .long (lN day)), (5, .long (lN on)), (7, .int (-1)), (8, .int (nI n))]) hx hb d_MO_holds_67 hl (by decide) rfl (fun ls hl => ?_)
            refine lv_iload hx hb d_MO_holds_69 (lv_at hl 0 rfl) ?_
            refine lv_if_eq (tgt := 103) hx hb d_MO_holds_71 (by decide) (fun c_5 => ?_) (fun c_5 => absurd (by decide) c_5)
            refine lv_iload hx hb d_MO_holds_103 (lv_at hl 6 rfl) ?_
            refine lv_istore (lv' := [(7, .int (-1)), (9, .int 0), (0, .ref x), (1, .int (nI lot)), (2, .int (nI kind)), (3, .long (lN day)), (5, .long (lN on)), (8, .int (nI n))]) hx hb d_MO_holds_105 hl (by decide) rfl (fun ls hl => ?_)
            refine lv_iinc (v := nI (n + 1)) (lv' := [(8, .int (nI (n + 1))), (7, .int (-1)), (9, .int 0), (0, .ref x), (1, .int (nI lot)), (2, .int (nI kind)), (3, .long (lN day)), (5, .long (lN on))]) hx hb d_MO_holds_107 hl (k := 7) rfl (f_inc1 _) (by decide) rfl (fun ls hl => ?_)
            refine lv_goto (tgt := 6) hx hb d_MO_holds_110 (by decide) ?_
            refine ih (n + 1) (by omega) ls ?_
            have e9 : hk fl fk fd fw lot kind day on (n + 1) = hk fl fk fd fw lot kind day on n := hk_no (fun q => by obtain ⟨q1, q2, q3, q4⟩ := q; omega)
            rw [e9]
            rw [e0, bI_0]
            exact lv_sub hl [3, 4, 5, 6, 7, 1, 0] rfl
          · have c_4 : (fk n) = kind := (n_eq (a := (fk n)) (b := kind) (by have := bfk n; omega) (by omega)).mp c_4
            refine lv_aload_n hx hb d_MO_holds_37 rfl (lv_at hl 0 rfl) ?_
            refine f_get (C := "DutyRulesModel") (T := T_MO) (N := 40) hx hb (fun w q => hT w (s_MO w q)) hown hK hI g_x rfl 9 (by decide) (hT _ w_818) (fun _ q => q) (mo_get (by decide) v_9) d_MO_holds_38 ?_
            refine lv_iload hx hb d_MO_holds_41 (lv_at hl 6 rfl) ?_
            refine f_laldn (k := n) (v := (lN (fd n))) hx hb hI g_a9 (fT.ofK hK (t0 := 1) rfl) (by omega) (by omega) rfl d_MO_holds_43 ?_
            refine lv_lload_n hx hb d_MO_holds_44 rfl (lv_at hl 3 rfl) ?_
            refine f_lc_gt (tgt := 66) hx hb d_MO_holds_45 d_MO_holds_46 (by decide) (fun c_6 => ?_) (fun c_6 => ?_)
            · have c_6 : day < (fd n) := (pk_lLT (a := day) (b := (fd n)) (by omega) (by have := bfd n; omega)).mp c_6
              refine lv_iconst (v := 0) hx hb d_MO_holds_66 (by decide) ?_
              refine lv_istore (lv' := [(9, .int 0), (0, .ref x), (1, .int (nI lot)), (2, .int (nI kind)), (3, .long (lN day)), (5, .long (lN on)), (7, .int (-1)), (8, .int (nI n))]) hx hb d_MO_holds_67 hl (by decide) rfl (fun ls hl => ?_)
              refine lv_iload hx hb d_MO_holds_69 (lv_at hl 0 rfl) ?_
              refine lv_if_eq (tgt := 103) hx hb d_MO_holds_71 (by decide) (fun c_7 => ?_) (fun c_7 => absurd (by decide) c_7)
              refine lv_iload hx hb d_MO_holds_103 (lv_at hl 6 rfl) ?_
              refine lv_istore (lv' := [(7, .int (-1)), (9, .int 0), (0, .ref x), (1, .int (nI lot)), (2, .int (nI kind)), (3, .long (lN day)), (5, .long (lN on)), (8, .int (nI n))]) hx hb d_MO_holds_105 hl (by decide) rfl (fun ls hl => ?_)
              refine lv_iinc (v := nI (n + 1)) (lv' := [(8, .int (nI (n + 1))), (7, .int (-1)), (9, .int 0), (0, .ref x), (1, .int (nI lot)), (2, .int (nI kind)), (3, .long (lN day)), (5, .long (lN on))]) hx hb d_MO_holds_107 hl (k := 7) rfl (f_inc1 _) (by decide) rfl (fun ls hl => ?_)
              refine lv_goto (tgt := 6) hx hb d_MO_holds_110 (by decide) ?_
              refine ih (n + 1) (by omega) ls ?_
              have e9 : hk fl fk fd fw lot kind day on (n + 1) = hk fl fk fd fw lot kind day on n := hk_no (fun q => by obtain ⟨q1, q2, q3, q4⟩ := q; omega)
              rw [e9]
              rw [e0, bI_0]
              exact lv_sub hl [3, 4, 5, 6, 7, 1, 0] rfl
            · have c_6 : ¬ day < (fd n) := fun q => c_6 ((pk_lLT (a := day) (b := (fd n)) (by omega) (by have := bfd n; omega)).mpr q)
              refine lv_aload_n hx hb d_MO_holds_49 rfl (lv_at hl 0 rfl) ?_
              refine f_get (C := "DutyRulesModel") (T := T_MO) (N := 40) hx hb (fun w q => hT w (s_MO w q)) hown hK hI g_x rfl 10 (by decide) (hT _ w_819) (fun _ q => q) (mo_get (by decide) v_10) d_MO_holds_50 ?_
              refine lv_iload hx hb d_MO_holds_53 (lv_at hl 6 rfl) ?_
              refine f_laldn (k := n) (v := (lN (fw n))) hx hb hI g_a10 (fT.ofK hK (t0 := 1) rfl) (by omega) (by omega) rfl d_MO_holds_55 ?_
              refine lv_lload hx hb d_MO_holds_56 (lv_at hl 4 rfl) ?_
              refine f_lc_gt (tgt := 66) hx hb d_MO_holds_58 d_MO_holds_59 (by decide) (fun c_8 => ?_) (fun c_8 => ?_)
              · have c_8 : on < (fw n) := (pk_lLT (a := on) (b := (fw n)) (by omega) (by have := bfw n; omega)).mp c_8
                refine lv_iconst (v := 0) hx hb d_MO_holds_66 (by decide) ?_
                refine lv_istore (lv' := [(9, .int 0), (0, .ref x), (1, .int (nI lot)), (2, .int (nI kind)), (3, .long (lN day)), (5, .long (lN on)), (7, .int (-1)), (8, .int (nI n))]) hx hb d_MO_holds_67 hl (by decide) rfl (fun ls hl => ?_)
                refine lv_iload hx hb d_MO_holds_69 (lv_at hl 0 rfl) ?_
                refine lv_if_eq (tgt := 103) hx hb d_MO_holds_71 (by decide) (fun c_9 => ?_) (fun c_9 => absurd (by decide) c_9)
                refine lv_iload hx hb d_MO_holds_103 (lv_at hl 6 rfl) ?_
                refine lv_istore (lv' := [(7, .int (-1)), (9, .int 0), (0, .ref x), (1, .int (nI lot)), (2, .int (nI kind)), (3, .long (lN day)), (5, .long (lN on)), (8, .int (nI n))]) hx hb d_MO_holds_105 hl (by decide) rfl (fun ls hl => ?_)
                refine lv_iinc (v := nI (n + 1)) (lv' := [(8, .int (nI (n + 1))), (7, .int (-1)), (9, .int 0), (0, .ref x), (1, .int (nI lot)), (2, .int (nI kind)), (3, .long (lN day)), (5, .long (lN on))]) hx hb d_MO_holds_107 hl (k := 7) rfl (f_inc1 _) (by decide) rfl (fun ls hl => ?_)
                refine lv_goto (tgt := 6) hx hb d_MO_holds_110 (by decide) ?_
                refine ih (n + 1) (by omega) ls ?_
                have e9 : hk fl fk fd fw lot kind day on (n + 1) = hk fl fk fd fw lot kind day on n := hk_no (fun q => by obtain ⟨q1, q2, q3, q4⟩ := q; omega)
                rw [e9]
                rw [e0, bI_0]
                exact lv_sub hl [3, 4, 5, 6, 7, 1, 0] rfl
              · have c_8 : ¬ on < (fw n) := fun q => c_8 ((pk_lLT (a := on) (b := (fw n)) (by omega) (by have := bfw n; omega)).mpr q)
                refine lv_iconst (v := 1) hx hb d_MO_holds_62 (by decide) ?_
                refine lv_goto (tgt := 67) hx hb d_MO_holds_63 (by decide) ?_
                refine lv_istore (lv' := [(9, .int 1), (0, .ref x), (1, .int (nI lot)), (2, .int (nI kind)), (3, .long (lN day)), (5, .long (lN on)), (7, .int (-1)), (8, .int (nI n))]) hx hb d_MO_holds_67 hl (by decide) rfl (fun ls hl => ?_)
                refine lv_iload hx hb d_MO_holds_69 (lv_at hl 0 rfl) ?_
                refine lv_if_eq (tgt := 103) hx hb d_MO_holds_71 (by decide) (fun c_10 => absurd c_10 (by decide)) (fun c_10 => ?_)
                refine lv_iload hx hb d_MO_holds_74 (lv_at hl 6 rfl) ?_
                refine lv_iconst (v := (-1)) hx hb d_MO_holds_76 (by decide) ?_
                refine lv_icmp_eq (tgt := 98) hx hb d_MO_holds_77 (by decide) (fun c_11 => ?_) (fun c_11 => absurd rfl c_11)
                refine lv_iload hx hb d_MO_holds_98 (lv_at hl 7 rfl) ?_
                refine lv_goto (tgt := 105) hx hb d_MO_holds_100 (by decide) ?_
                refine lv_istore (lv' := [(7, .int (nI n)), (9, .int 1), (0, .ref x), (1, .int (nI lot)), (2, .int (nI kind)), (3, .long (lN day)), (5, .long (lN on)), (8, .int (nI n))]) hx hb d_MO_holds_105 hl (by decide) rfl (fun ls hl => ?_)
                refine lv_iinc (v := nI (n + 1)) (lv' := [(8, .int (nI (n + 1))), (7, .int (nI n)), (9, .int 1), (0, .ref x), (1, .int (nI lot)), (2, .int (nI kind)), (3, .long (lN day)), (5, .long (lN on))]) hx hb d_MO_holds_107 hl (k := 7) rfl (f_inc1 _) (by decide) rfl (fun ls hl => ?_)
                refine lv_goto (tgt := 6) hx hb d_MO_holds_110 (by decide) ?_
                refine ih (n + 1) (by omega) ls ?_
                have e9 : hk fl fk fd fw lot kind day on (n + 1) = max (hk fl fk fd fw lot kind day on n) (kK fd n) := hk_yes ⟨c_2, c_4, by omega, by omega⟩
                rw [e9]
                rw [e0, Nat.max_eq_right (Nat.zero_le _), bI_k (by omega)]
                exact lv_sub hl [3, 4, 5, 6, 7, 1, 0] rfl
      · rw [ei, bI_k (by omega)] at hl
        refine lv_iload hx hb d_MO_holds_6 (lv_at hl 6 rfl) ?_
        refine lv_aload_n hx hb d_MO_holds_8 rfl (lv_at hl 0 rfl) ?_
        refine f_get (C := "DutyRulesModel") (T := T_MO) (N := 40) hx hb (fun w q => hT w (s_MO w q)) hown hK hI g_x rfl 12 (by decide) (hT _ w_821) (fun _ q => q) (mo_get (by decide) v_12) d_MO_holds_9 ?_
        refine lv_icmp_ge (tgt := 113) hx hb d_MO_holds_12 (by decide) (fun c_1 => absurd c_1 (fun q => absurd ((n_le (by omega) (by omega)).mp q) (by omega))) (fun c_1 => ?_)
        refine lv_aload_n hx hb d_MO_holds_15 rfl (lv_at hl 0 rfl) ?_
        refine f_get (C := "DutyRulesModel") (T := T_MO) (N := 40) hx hb (fun w q => hT w (s_MO w q)) hown hK hI g_x rfl 7 (by decide) (hT _ w_816) (fun _ q => q) (mo_get (by decide) v_7) d_MO_holds_16 ?_
        refine lv_iload hx hb d_MO_holds_19 (lv_at hl 6 rfl) ?_
        refine f_ialdn (k := n) (v := (nI (fl n))) hx hb hI g_a7 (fT.ofK hK (t0 := 0) rfl) (by omega) (by omega) rfl d_MO_holds_21 ?_
        refine lv_iload_n hx hb d_MO_holds_22 rfl (lv_at hl 1 rfl) ?_
        refine lv_icmp_ne (tgt := 66) hx hb d_MO_holds_23 (by decide) (fun c_2 => ?_) (fun c_2 => ?_)
        · have c_2 : ¬ (fl n) = lot := fun q => c_2 ((n_eq (a := (fl n)) (b := lot) (by have := bfl n; omega) (by omega)).mpr q)
          refine lv_iconst (v := 0) hx hb d_MO_holds_66 (by decide) ?_
          refine lv_istore (lv' := [(9, .int 0), (0, .ref x), (1, .int (nI lot)), (2, .int (nI kind)), (3, .long (lN day)), (5, .long (lN on)), (7, .int (nI i)), (8, .int (nI n))]) hx hb d_MO_holds_67 hl (by decide) rfl (fun ls hl => ?_)
          refine lv_iload hx hb d_MO_holds_69 (lv_at hl 0 rfl) ?_
          refine lv_if_eq (tgt := 103) hx hb d_MO_holds_71 (by decide) (fun c_3 => ?_) (fun c_3 => absurd (by decide) c_3)
          refine lv_iload hx hb d_MO_holds_103 (lv_at hl 6 rfl) ?_
          refine lv_istore (lv' := [(7, .int (nI i)), (9, .int 0), (0, .ref x), (1, .int (nI lot)), (2, .int (nI kind)), (3, .long (lN day)), (5, .long (lN on)), (8, .int (nI n))]) hx hb d_MO_holds_105 hl (by decide) rfl (fun ls hl => ?_)
          refine lv_iinc (v := nI (n + 1)) (lv' := [(8, .int (nI (n + 1))), (7, .int (nI i)), (9, .int 0), (0, .ref x), (1, .int (nI lot)), (2, .int (nI kind)), (3, .long (lN day)), (5, .long (lN on))]) hx hb d_MO_holds_107 hl (k := 7) rfl (f_inc1 _) (by decide) rfl (fun ls hl => ?_)
          refine lv_goto (tgt := 6) hx hb d_MO_holds_110 (by decide) ?_
          refine ih (n + 1) (by omega) ls ?_
          have e9 : hk fl fk fd fw lot kind day on (n + 1) = hk fl fk fd fw lot kind day on n := hk_no (fun q => by obtain ⟨q1, q2, q3, q4⟩ := q; omega)
          rw [e9]
          rw [ei, bI_k (by omega)]
          exact lv_sub hl [3, 4, 5, 6, 7, 1, 0] rfl
        · have c_2 : (fl n) = lot := (n_eq (a := (fl n)) (b := lot) (by have := bfl n; omega) (by omega)).mp c_2
          refine lv_aload_n hx hb d_MO_holds_26 rfl (lv_at hl 0 rfl) ?_
          refine f_get (C := "DutyRulesModel") (T := T_MO) (N := 40) hx hb (fun w q => hT w (s_MO w q)) hown hK hI g_x rfl 8 (by decide) (hT _ w_817) (fun _ q => q) (mo_get (by decide) v_8) d_MO_holds_27 ?_
          refine lv_iload hx hb d_MO_holds_30 (lv_at hl 6 rfl) ?_
          refine f_ialdn (k := n) (v := (nI (fk n))) hx hb hI g_a8 (fT.ofK hK (t0 := 0) rfl) (by omega) (by omega) rfl d_MO_holds_32 ?_
          refine lv_iload_n hx hb d_MO_holds_33 rfl (lv_at hl 2 rfl) ?_
          refine lv_icmp_ne (tgt := 66) hx hb d_MO_holds_34 (by decide) (fun c_4 => ?_) (fun c_4 => ?_)
          · have c_4 : ¬ (fk n) = kind := fun q => c_4 ((n_eq (a := (fk n)) (b := kind) (by have := bfk n; omega) (by omega)).mpr q)
            refine lv_iconst (v := 0) hx hb d_MO_holds_66 (by decide) ?_
            refine lv_istore (lv' := [(9, .int 0), (0, .ref x), (1, .int (nI lot)), (2, .int (nI kind)), (3, .long (lN day)), (5, .long (lN on)), (7, .int (nI i)), (8, .int (nI n))]) hx hb d_MO_holds_67 hl (by decide) rfl (fun ls hl => ?_)
            refine lv_iload hx hb d_MO_holds_69 (lv_at hl 0 rfl) ?_
            refine lv_if_eq (tgt := 103) hx hb d_MO_holds_71 (by decide) (fun c_5 => ?_) (fun c_5 => absurd (by decide) c_5)
            refine lv_iload hx hb d_MO_holds_103 (lv_at hl 6 rfl) ?_
            refine lv_istore (lv' := [(7, .int (nI i)), (9, .int 0), (0, .ref x), (1, .int (nI lot)), (2, .int (nI kind)), (3, .long (lN day)), (5, .long (lN on)), (8, .int (nI n))]) hx hb d_MO_holds_105 hl (by decide) rfl (fun ls hl => ?_)
            refine lv_iinc (v := nI (n + 1)) (lv' := [(8, .int (nI (n + 1))), (7, .int (nI i)), (9, .int 0), (0, .ref x), (1, .int (nI lot)), (2, .int (nI kind)), (3, .long (lN day)), (5, .long (lN on))]) hx hb d_MO_holds_107 hl (k := 7) rfl (f_inc1 _) (by decide) rfl (fun ls hl => ?_)
            refine lv_goto (tgt := 6) hx hb d_MO_holds_110 (by decide) ?_
            refine ih (n + 1) (by omega) ls ?_
            have e9 : hk fl fk fd fw lot kind day on (n + 1) = hk fl fk fd fw lot kind day on n := hk_no (fun q => by obtain ⟨q1, q2, q3, q4⟩ := q; omega)
            rw [e9]
            rw [ei, bI_k (by omega)]
            exact lv_sub hl [3, 4, 5, 6, 7, 1, 0] rfl
          · have c_4 : (fk n) = kind := (n_eq (a := (fk n)) (b := kind) (by have := bfk n; omega) (by omega)).mp c_4
            refine lv_aload_n hx hb d_MO_holds_37 rfl (lv_at hl 0 rfl) ?_
            refine f_get (C := "DutyRulesModel") (T := T_MO) (N := 40) hx hb (fun w q => hT w (s_MO w q)) hown hK hI g_x rfl 9 (by decide) (hT _ w_818) (fun _ q => q) (mo_get (by decide) v_9) d_MO_holds_38 ?_
            refine lv_iload hx hb d_MO_holds_41 (lv_at hl 6 rfl) ?_
            refine f_laldn (k := n) (v := (lN (fd n))) hx hb hI g_a9 (fT.ofK hK (t0 := 1) rfl) (by omega) (by omega) rfl d_MO_holds_43 ?_
            refine lv_lload_n hx hb d_MO_holds_44 rfl (lv_at hl 3 rfl) ?_
            refine f_lc_gt (tgt := 66) hx hb d_MO_holds_45 d_MO_holds_46 (by decide) (fun c_6 => ?_) (fun c_6 => ?_)
            · have c_6 : day < (fd n) := (pk_lLT (a := day) (b := (fd n)) (by omega) (by have := bfd n; omega)).mp c_6
              refine lv_iconst (v := 0) hx hb d_MO_holds_66 (by decide) ?_
              refine lv_istore (lv' := [(9, .int 0), (0, .ref x), (1, .int (nI lot)), (2, .int (nI kind)), (3, .long (lN day)), (5, .long (lN on)), (7, .int (nI i)), (8, .int (nI n))]) hx hb d_MO_holds_67 hl (by decide) rfl (fun ls hl => ?_)
              refine lv_iload hx hb d_MO_holds_69 (lv_at hl 0 rfl) ?_
              refine lv_if_eq (tgt := 103) hx hb d_MO_holds_71 (by decide) (fun c_7 => ?_) (fun c_7 => absurd (by decide) c_7)
              refine lv_iload hx hb d_MO_holds_103 (lv_at hl 6 rfl) ?_
              refine lv_istore (lv' := [(7, .int (nI i)), (9, .int 0), (0, .ref x), (1, .int (nI lot)), (2, .int (nI kind)), (3, .long (lN day)), (5, .long (lN on)), (8, .int (nI n))]) hx hb d_MO_holds_105 hl (by decide) rfl (fun ls hl => ?_)
              refine lv_iinc (v := nI (n + 1)) (lv' := [(8, .int (nI (n + 1))), (7, .int (nI i)), (9, .int 0), (0, .ref x), (1, .int (nI lot)), (2, .int (nI kind)), (3, .long (lN day)), (5, .long (lN on))]) hx hb d_MO_holds_107 hl (k := 7) rfl (f_inc1 _) (by decide) rfl (fun ls hl => ?_)
              refine lv_goto (tgt := 6) hx hb d_MO_holds_110 (by decide) ?_
              refine ih (n + 1) (by omega) ls ?_
              have e9 : hk fl fk fd fw lot kind day on (n + 1) = hk fl fk fd fw lot kind day on n := hk_no (fun q => by obtain ⟨q1, q2, q3, q4⟩ := q; omega)
              rw [e9]
              rw [ei, bI_k (by omega)]
              exact lv_sub hl [3, 4, 5, 6, 7, 1, 0] rfl
            · have c_6 : ¬ day < (fd n) := fun q => c_6 ((pk_lLT (a := day) (b := (fd n)) (by omega) (by have := bfd n; omega)).mpr q)
              refine lv_aload_n hx hb d_MO_holds_49 rfl (lv_at hl 0 rfl) ?_
              refine f_get (C := "DutyRulesModel") (T := T_MO) (N := 40) hx hb (fun w q => hT w (s_MO w q)) hown hK hI g_x rfl 10 (by decide) (hT _ w_819) (fun _ q => q) (mo_get (by decide) v_10) d_MO_holds_50 ?_
              refine lv_iload hx hb d_MO_holds_53 (lv_at hl 6 rfl) ?_
              refine f_laldn (k := n) (v := (lN (fw n))) hx hb hI g_a10 (fT.ofK hK (t0 := 1) rfl) (by omega) (by omega) rfl d_MO_holds_55 ?_
              refine lv_lload hx hb d_MO_holds_56 (lv_at hl 4 rfl) ?_
              refine f_lc_gt (tgt := 66) hx hb d_MO_holds_58 d_MO_holds_59 (by decide) (fun c_8 => ?_) (fun c_8 => ?_)
              · have c_8 : on < (fw n) := (pk_lLT (a := on) (b := (fw n)) (by omega) (by have := bfw n; omega)).mp c_8
                refine lv_iconst (v := 0) hx hb d_MO_holds_66 (by decide) ?_
                refine lv_istore (lv' := [(9, .int 0), (0, .ref x), (1, .int (nI lot)), (2, .int (nI kind)), (3, .long (lN day)), (5, .long (lN on)), (7, .int (nI i)), (8, .int (nI n))]) hx hb d_MO_holds_67 hl (by decide) rfl (fun ls hl => ?_)
                refine lv_iload hx hb d_MO_holds_69 (lv_at hl 0 rfl) ?_
                refine lv_if_eq (tgt := 103) hx hb d_MO_holds_71 (by decide) (fun c_9 => ?_) (fun c_9 => absurd (by decide) c_9)
                refine lv_iload hx hb d_MO_holds_103 (lv_at hl 6 rfl) ?_
                refine lv_istore (lv' := [(7, .int (nI i)), (9, .int 0), (0, .ref x), (1, .int (nI lot)), (2, .int (nI kind)), (3, .long (lN day)), (5, .long (lN on)), (8, .int (nI n))]) hx hb d_MO_holds_105 hl (by decide) rfl (fun ls hl => ?_)
                refine lv_iinc (v := nI (n + 1)) (lv' := [(8, .int (nI (n + 1))), (7, .int (nI i)), (9, .int 0), (0, .ref x), (1, .int (nI lot)), (2, .int (nI kind)), (3, .long (lN day)), (5, .long (lN on))]) hx hb d_MO_holds_107 hl (k := 7) rfl (f_inc1 _) (by decide) rfl (fun ls hl => ?_)
                refine lv_goto (tgt := 6) hx hb d_MO_holds_110 (by decide) ?_
                refine ih (n + 1) (by omega) ls ?_
                have e9 : hk fl fk fd fw lot kind day on (n + 1) = hk fl fk fd fw lot kind day on n := hk_no (fun q => by obtain ⟨q1, q2, q3, q4⟩ := q; omega)
                rw [e9]
                rw [ei, bI_k (by omega)]
                exact lv_sub hl [3, 4, 5, 6, 7, 1, 0] rfl
              · have c_8 : ¬ on < (fw n) := fun q => c_8 ((pk_lLT (a := on) (b := (fw n)) (by omega) (by have := bfw n; omega)).mpr q)
                refine lv_iconst (v := 1) hx hb d_MO_holds_62 (by decide) ?_
                refine lv_goto (tgt := 67) hx hb d_MO_holds_63 (by decide) ?_
                refine lv_istore (lv' := [(9, .int 1), (0, .ref x), (1, .int (nI lot)), (2, .int (nI kind)), (3, .long (lN day)), (5, .long (lN on)), (7, .int (nI i)), (8, .int (nI n))]) hx hb d_MO_holds_67 hl (by decide) rfl (fun ls hl => ?_)
                refine lv_iload hx hb d_MO_holds_69 (lv_at hl 0 rfl) ?_
                refine lv_if_eq (tgt := 103) hx hb d_MO_holds_71 (by decide) (fun c_10 => absurd c_10 (by decide)) (fun c_10 => ?_)
                refine lv_iload hx hb d_MO_holds_74 (lv_at hl 6 rfl) ?_
                refine lv_iconst (v := (-1)) hx hb d_MO_holds_76 (by decide) ?_
                refine lv_icmp_eq (tgt := 98) hx hb d_MO_holds_77 (by decide) (fun c_11 => absurd c_11 (n_m1 (by omega))) (fun c_11 => ?_)
                refine lv_aload_n hx hb d_MO_holds_80 rfl (lv_at hl 1 rfl) ?_
                refine f_get (C := "DutyRulesModel") (T := T_MO) (N := 40) hx hb (fun w q => hT w (s_MO w q)) hown hK hI g_x rfl 9 (by decide) (hT _ w_818) (fun _ q => q) (mo_get (by decide) v_9) d_MO_holds_81 ?_
                refine lv_iload hx hb d_MO_holds_84 (lv_at hl 7 rfl) ?_
                refine f_laldn (k := n) (v := (lN (fd n))) hx hb hI g_a9 (fT.ofK hK (t0 := 1) rfl) (by omega) (by omega) rfl d_MO_holds_86 ?_
                refine lv_aload_n hx hb d_MO_holds_87 rfl (lv_at hl 1 rfl) ?_
                refine f_get (C := "DutyRulesModel") (T := T_MO) (N := 40) hx hb (fun w q => hT w (s_MO w q)) hown hK hI g_x rfl 9 (by decide) (hT _ w_818) (fun _ q => q) (mo_get (by decide) v_9) d_MO_holds_88 ?_
                refine lv_iload hx hb d_MO_holds_91 (lv_at hl 6 rfl) ?_
                refine f_laldn (k := i) (v := (lN (fd i))) hx hb hI g_a9 (fT.ofK hK (t0 := 1) rfl) (by omega) (by omega) rfl d_MO_holds_93 ?_
                refine f_lc_lt (tgt := 103) hx hb d_MO_holds_94 d_MO_holds_95 (by decide) (fun c_12 => ?_) (fun c_12 => ?_)
                · have c_12 : (fd n) < (fd i) := (pk_lLT (a := (fd n)) (b := (fd i)) (by have := bfd n; omega) (by have := bfd i; omega)).mp c_12
                  refine lv_iload hx hb d_MO_holds_103 (lv_at hl 6 rfl) ?_
                  refine lv_istore (lv' := [(7, .int (nI i)), (9, .int 1), (0, .ref x), (1, .int (nI lot)), (2, .int (nI kind)), (3, .long (lN day)), (5, .long (lN on)), (8, .int (nI n))]) hx hb d_MO_holds_105 hl (by decide) rfl (fun ls hl => ?_)
                  refine lv_iinc (v := nI (n + 1)) (lv' := [(8, .int (nI (n + 1))), (7, .int (nI i)), (9, .int 1), (0, .ref x), (1, .int (nI lot)), (2, .int (nI kind)), (3, .long (lN day)), (5, .long (lN on))]) hx hb d_MO_holds_107 hl (k := 7) rfl (f_inc1 _) (by decide) rfl (fun ls hl => ?_)
                  refine lv_goto (tgt := 6) hx hb d_MO_holds_110 (by decide) ?_
                  refine ih (n + 1) (by omega) ls ?_
                  have e9 : hk fl fk fd fw lot kind day on (n + 1) = max (hk fl fk fd fw lot kind day on n) (kK fd n) := hk_yes ⟨c_2, c_4, by omega, by omega⟩
                  rw [e9]
                  rw [ei, Nat.max_eq_left (Nat.le_of_lt (kK_gt (by omega) (by omega))), bI_k (by omega)]
                  exact lv_sub hl [3, 4, 5, 6, 7, 1, 0] rfl
                · have c_12 : ¬ (fd n) < (fd i) := fun q => c_12 ((pk_lLT (a := (fd n)) (b := (fd i)) (by have := bfd n; omega) (by have := bfd i; omega)).mpr q)
                  refine lv_iload hx hb d_MO_holds_98 (lv_at hl 7 rfl) ?_
                  refine lv_goto (tgt := 105) hx hb d_MO_holds_100 (by decide) ?_
                  refine lv_istore (lv' := [(7, .int (nI n)), (9, .int 1), (0, .ref x), (1, .int (nI lot)), (2, .int (nI kind)), (3, .long (lN day)), (5, .long (lN on)), (8, .int (nI n))]) hx hb d_MO_holds_105 hl (by decide) rfl (fun ls hl => ?_)
                  refine lv_iinc (v := nI (n + 1)) (lv' := [(8, .int (nI (n + 1))), (7, .int (nI n)), (9, .int 1), (0, .ref x), (1, .int (nI lot)), (2, .int (nI kind)), (3, .long (lN day)), (5, .long (lN on))]) hx hb d_MO_holds_107 hl (k := 7) rfl (f_inc1 _) (by decide) rfl (fun ls hl => ?_)
                  refine lv_goto (tgt := 6) hx hb d_MO_holds_110 (by decide) ?_
                  refine ih (n + 1) (by omega) ls ?_
                  have e9 : hk fl fk fd fw lot kind day on (n + 1) = max (hk fl fk fd fw lot kind day on n) (kK fd n) := hk_yes ⟨c_2, c_4, by omega, by omega⟩
                  rw [e9]
                  rw [ei, Nat.max_eq_right (Nat.le_of_lt (kK_lt hi1 (by omega) (by omega))), bI_k (by omega)]
                  exact lv_sub hl [3, 4, 5, 6, 7, 1, 0] rfl
  refine lv_iconst (v := (-1)) hx hb d_MO_holds_0 (by decide) ?_
  refine lv_istore (lv' := [(7, .int (-1)), (0, .ref x), (1, .int (nI lot)), (2, .int (nI kind)), (3, .long (lN day)), (5, .long (lN on))]) hx hb d_MO_holds_1 hl (by decide) rfl (fun ls hl => ?_)
  refine lv_iconst (v := 0) hx hb d_MO_holds_3 (by decide) ?_
  refine lv_istore (lv' := [(8, .int 0), (7, .int (-1)), (0, .ref x), (1, .int (nI lot)), (2, .int (nI kind)), (3, .long (lN day)), (5, .long (lN on))]) hx hb d_MO_holds_4 hl (by decide) rfl (fun ls hl => ?_)
  refine LOOP nf 0 (by omega) ls ?_
  exact lv_sub hl [2, 3, 4, 5, 6, 1, 0] rfl
theorem gm_MO_editionOf : gM y_MO_editionOf b_MO_editionOf 5 (some .int) 1 := ⟨w_1025, w_10, ⟨by decide, by decide⟩, by decide +kernel⟩
set_option maxHeartbeats 4000000 in
set_option maxRecDepth 100000 in
/-- MO_editionOf  -/
theorem c_MO_editionOf (l : Launch) (G : gG) (h : fH) (sz : Nat) (x day : Nat) (mf : Nat → Value) (g_x : h x = some (40, 0, .inr (8, mo mf))) (ne : Nat) (ef rr rm : Nat → Nat) (hEd : mEd G h mf ne ef rr rm) (bday : day < 2 ^ 31) : cM l y_MO_editionOf b_MO_editionOf 5 (some .int) { frames := 0, cells := 0, slots := 0, locals := 0 } G [.ref x, .long (lN day)] h sz (cQi G h sz (fun r h' => r = oN (eo ef day ne) ∧ h' = h)) := by
  refine f_start (by decide) (Nat.le_of_ble_eq_true rfl) ?_
  intro p e s m below meth c ls C hr hsz hI hl
  obtain ⟨hx, hb, hml, hown, hnm, hlk, hT, hG, hZ⟩ := id C
  have hK := hG.1
  have hX : fX h sz h := fX.rf
  have hl : lv_has ls 5 [(0, .ref x), (1, .long (lN day))] := hl
  obtain ⟨a3, a4, a5, ⟨v_3, v_4, v_5, v_6⟩, ⟨g_a3, g_a4, g_a5⟩, bne, brm, bef, brr, brk⟩ := hEd
  have LOOP : ∀ (k n : Nat), n + k = ne → ∀ ls : Array Slot, lv_has ls 5 [(0, .ref x), (1, .long (lN day)), (3, .int (oN (eo ef day n))), (4, .int (nI n))] → W p l e { frames := 0, cells := 0, slots := 0, locals := 0 } s m ([.ref x, .long (lN day)] : List Value).toArray below meth c s.heap [] 0 0 (MQ below (cQi G h sz (fun r h' => r = oN (eo ef day ne) ∧ h' = h)) ([.ref x, .long (lN day)] : List Value).toArray s 0 0 (fA h sz)) (F0 m 5 ls []) := by
    intro k
    induction k with
    | zero =>
      intro n hn ls hl
      refine lv_iload hx hb d_MO_editionOf_5 (lv_at hl 3 rfl) ?_
      refine lv_aload_n hx hb d_MO_editionOf_7 rfl (lv_at hl 0 rfl) ?_
      refine f_get (C := "DutyRulesModel") (T := T_MO) (N := 40) hx hb (fun w q => hT w (s_MO w q)) hown hK hI g_x rfl 6 (by decide) (hT _ w_815) (fun _ q => q) (mo_get (by decide) v_6) d_MO_editionOf_8 ?_
      refine lv_icmp_ge (tgt := 61) hx hb d_MO_editionOf_11 (by decide) (fun c_1 => ?_) (fun c_1 => absurd ((n_le (by omega) (by omega)).mpr (by omega)) c_1)
      refine lv_iload_n hx hb d_MO_editionOf_61 rfl (lv_at hl 2 rfl) ?_
      exact f_iret C hr hI ⟨by rw [show n = ne by omega], rfl⟩ hX (Nat.le_refl _) (Nat.le_refl _) d_MO_editionOf_62
    | succ k ih =>
      intro n hn ls hl
      have hn2 : n < ne := by omega
      have ih : ∀ n : Nat, n + k = ne → ∀ ls : Array Slot, lv_has ls 5 [(0, .ref x), (1, .long (lN day)), (3, .int (oN (eo ef day n))), (4, .int (nI n))] → W p l e { frames := 0, cells := 0, slots := 0, locals := 0 } s m ([.ref x, .long (lN day)] : List Value).toArray below meth c s.heap [] 0 0 (MQ below (cQi G h sz (fun r h' => r = oN (eo ef day ne) ∧ h' = h)) ([.ref x, .long (lN day)] : List Value).toArray s 0 0 (fA h sz)) (F0 m 5 ls []) := ih
      rcases en : eo ef day n with _ | b
      · rw [en] at hl; have hl : lv_has ls 5 [(0, .ref x), (1, .long (lN day)), (3, .int (-1)), (4, .int (nI n))] := hl
        refine lv_iload hx hb d_MO_editionOf_5 (lv_at hl 3 rfl) ?_
        refine lv_aload_n hx hb d_MO_editionOf_7 rfl (lv_at hl 0 rfl) ?_
        refine f_get (C := "DutyRulesModel") (T := T_MO) (N := 40) hx hb (fun w q => hT w (s_MO w q)) hown hK hI g_x rfl 6 (by decide) (hT _ w_815) (fun _ q => q) (mo_get (by decide) v_6) d_MO_editionOf_8 ?_
        refine lv_icmp_ge (tgt := 61) hx hb d_MO_editionOf_11 (by decide) (fun c_2 => absurd c_2 (fun q => absurd ((n_le (by omega) (by omega)).mp q) (by omega))) (fun c_2 => ?_)
        refine lv_aload_n hx hb d_MO_editionOf_14 rfl (lv_at hl 0 rfl) ?_
        refine f_get (C := "DutyRulesModel") (T := T_MO) (N := 40) hx hb (fun w q => hT w (s_MO w q)) hown hK hI g_x rfl 5 (by decide) (hT _ w_814) (fun _ q => q) (mo_get (by decide) v_5) d_MO_editionOf_15 ?_
        refine lv_iload hx hb d_MO_editionOf_18 (lv_at hl 3 rfl) ?_
        refine f_laldn (k := n) (v := (lN (ef n))) hx hb hI g_a5 (fT.ofK hK (t0 := 1) rfl) (by omega) (by omega) rfl d_MO_editionOf_20 ?_
        refine lv_lload_n hx hb d_MO_editionOf_21 rfl (lv_at hl 1 rfl) ?_
        refine f_lc_gt (tgt := 53) hx hb d_MO_editionOf_22 d_MO_editionOf_23 (by decide) (fun c_3 => ?_) (fun c_3 => ?_)
        · have c_3 : day < (ef n) := (pk_lLT (a := day) (b := (ef n)) (by omega) (by have := bef n; omega)).mp c_3
          refine lv_iload_n hx hb d_MO_editionOf_53 rfl (lv_at hl 2 rfl) ?_
          refine lv_istore_n (lv' := [(3, .int (-1)), (0, .ref x), (1, .long (lN day)), (4, .int (nI n))]) hx hb d_MO_editionOf_54 rfl hl (by decide) rfl (fun ls hl => ?_)
          refine lv_iinc (v := nI (n + 1)) (lv' := [(4, .int (nI (n + 1))), (3, .int (-1)), (0, .ref x), (1, .long (lN day))]) hx hb d_MO_editionOf_55 hl (k := 3) rfl (f_inc1 _) (by decide) rfl (fun ls hl => ?_)
          refine lv_goto (tgt := 5) hx hb d_MO_editionOf_58 (by decide) ?_
          refine ih (n + 1) (by omega) ls ?_
          rw [eo_no (by rw [en]; simp only [eoC, Bool.and_eq_true, decide_eq_true_eq]; omega), en]
          exact lv_sub hl [2, 3, 1, 0] rfl
        · have c_3 : ¬ day < (ef n) := fun q => c_3 ((pk_lLT (a := day) (b := (ef n)) (by omega) (by have := bef n; omega)).mpr q)
          refine lv_iload_n hx hb d_MO_editionOf_26 rfl (lv_at hl 2 rfl) ?_
          refine lv_iconst (v := (-1)) hx hb d_MO_editionOf_27 (by decide) ?_
          refine lv_icmp_eq (tgt := 48) hx hb d_MO_editionOf_28 (by decide) (fun c_4 => ?_) (fun c_4 => absurd rfl c_4)
          refine lv_iload hx hb d_MO_editionOf_48 (lv_at hl 3 rfl) ?_
          refine lv_goto (tgt := 54) hx hb d_MO_editionOf_50 (by decide) ?_
          refine lv_istore_n (lv' := [(3, .int (nI n)), (0, .ref x), (1, .long (lN day)), (4, .int (nI n))]) hx hb d_MO_editionOf_54 rfl hl (by decide) rfl (fun ls hl => ?_)
          refine lv_iinc (v := nI (n + 1)) (lv' := [(4, .int (nI (n + 1))), (3, .int (nI n)), (0, .ref x), (1, .long (lN day))]) hx hb d_MO_editionOf_55 hl (k := 3) rfl (f_inc1 _) (by decide) rfl (fun ls hl => ?_)
          refine lv_goto (tgt := 5) hx hb d_MO_editionOf_58 (by decide) ?_
          refine ih (n + 1) (by omega) ls ?_
          rw [eo_yes (by rw [en]; simp only [eoC, Bool.and_eq_true, decide_eq_true_eq]; exact ⟨by omega, trivial⟩)]
          exact lv_sub hl [2, 3, 1, 0] rfl
      · rw [en] at hl; have hl : lv_has ls 5 [(0, .ref x), (1, .long (lN day)), (3, .int (nI b)), (4, .int (nI n))] := hl
        have hb1 := (eo_lt en).1
        refine lv_iload hx hb d_MO_editionOf_5 (lv_at hl 3 rfl) ?_
        refine lv_aload_n hx hb d_MO_editionOf_7 rfl (lv_at hl 0 rfl) ?_
        refine f_get (C := "DutyRulesModel") (T := T_MO) (N := 40) hx hb (fun w q => hT w (s_MO w q)) hown hK hI g_x rfl 6 (by decide) (hT _ w_815) (fun _ q => q) (mo_get (by decide) v_6) d_MO_editionOf_8 ?_
        refine lv_icmp_ge (tgt := 61) hx hb d_MO_editionOf_11 (by decide) (fun c_5 => absurd c_5 (fun q => absurd ((n_le (by omega) (by omega)).mp q) (by omega))) (fun c_5 => ?_)
        refine lv_aload_n hx hb d_MO_editionOf_14 rfl (lv_at hl 0 rfl) ?_
        refine f_get (C := "DutyRulesModel") (T := T_MO) (N := 40) hx hb (fun w q => hT w (s_MO w q)) hown hK hI g_x rfl 5 (by decide) (hT _ w_814) (fun _ q => q) (mo_get (by decide) v_5) d_MO_editionOf_15 ?_
        refine lv_iload hx hb d_MO_editionOf_18 (lv_at hl 3 rfl) ?_
        refine f_laldn (k := n) (v := (lN (ef n))) hx hb hI g_a5 (fT.ofK hK (t0 := 1) rfl) (by omega) (by omega) rfl d_MO_editionOf_20 ?_
        refine lv_lload_n hx hb d_MO_editionOf_21 rfl (lv_at hl 1 rfl) ?_
        refine f_lc_gt (tgt := 53) hx hb d_MO_editionOf_22 d_MO_editionOf_23 (by decide) (fun c_6 => ?_) (fun c_6 => ?_)
        · have c_6 : day < (ef n) := (pk_lLT (a := day) (b := (ef n)) (by omega) (by have := bef n; omega)).mp c_6
          refine lv_iload_n hx hb d_MO_editionOf_53 rfl (lv_at hl 2 rfl) ?_
          refine lv_istore_n (lv' := [(3, .int (nI b)), (0, .ref x), (1, .long (lN day)), (4, .int (nI n))]) hx hb d_MO_editionOf_54 rfl hl (by decide) rfl (fun ls hl => ?_)
          refine lv_iinc (v := nI (n + 1)) (lv' := [(4, .int (nI (n + 1))), (3, .int (nI b)), (0, .ref x), (1, .long (lN day))]) hx hb d_MO_editionOf_55 hl (k := 3) rfl (f_inc1 _) (by decide) rfl (fun ls hl => ?_)
          refine lv_goto (tgt := 5) hx hb d_MO_editionOf_58 (by decide) ?_
          refine ih (n + 1) (by omega) ls ?_
          rw [eo_no (by rw [en]; simp only [eoC, Bool.and_eq_true, decide_eq_true_eq]; omega), en]
          exact lv_sub hl [2, 3, 1, 0] rfl
        · have c_6 : ¬ day < (ef n) := fun q => c_6 ((pk_lLT (a := day) (b := (ef n)) (by omega) (by have := bef n; omega)).mpr q)
          refine lv_iload_n hx hb d_MO_editionOf_26 rfl (lv_at hl 2 rfl) ?_
          refine lv_iconst (v := (-1)) hx hb d_MO_editionOf_27 (by decide) ?_
          refine lv_icmp_eq (tgt := 48) hx hb d_MO_editionOf_28 (by decide) (fun c_7 => absurd c_7 (n_m1 (by omega))) (fun c_7 => ?_)
          refine lv_aload_n hx hb d_MO_editionOf_31 rfl (lv_at hl 0 rfl) ?_
          refine f_get (C := "DutyRulesModel") (T := T_MO) (N := 40) hx hb (fun w q => hT w (s_MO w q)) hown hK hI g_x rfl 5 (by decide) (hT _ w_814) (fun _ q => q) (mo_get (by decide) v_5) d_MO_editionOf_32 ?_
          refine lv_iload hx hb d_MO_editionOf_35 (lv_at hl 3 rfl) ?_
          refine f_laldn (k := n) (v := (lN (ef n))) hx hb hI g_a5 (fT.ofK hK (t0 := 1) rfl) (by omega) (by omega) rfl d_MO_editionOf_37 ?_
          refine lv_aload_n hx hb d_MO_editionOf_38 rfl (lv_at hl 0 rfl) ?_
          refine f_get (C := "DutyRulesModel") (T := T_MO) (N := 40) hx hb (fun w q => hT w (s_MO w q)) hown hK hI g_x rfl 5 (by decide) (hT _ w_814) (fun _ q => q) (mo_get (by decide) v_5) d_MO_editionOf_39 ?_
          refine lv_iload_n hx hb d_MO_editionOf_42 rfl (lv_at hl 2 rfl) ?_
          refine f_laldn (k := b) (v := (lN (ef b))) hx hb hI g_a5 (fT.ofK hK (t0 := 1) rfl) (by omega) (by omega) rfl d_MO_editionOf_43 ?_
          refine f_lc_lt (tgt := 53) hx hb d_MO_editionOf_44 d_MO_editionOf_45 (by decide) (fun c_8 => ?_) (fun c_8 => ?_)
          · have c_8 : (ef n) < (ef b) := (pk_lLT (a := (ef n)) (b := (ef b)) (by have := bef n; omega) (by have := bef b; omega)).mp c_8
            refine lv_iload_n hx hb d_MO_editionOf_53 rfl (lv_at hl 2 rfl) ?_
            refine lv_istore_n (lv' := [(3, .int (nI b)), (0, .ref x), (1, .long (lN day)), (4, .int (nI n))]) hx hb d_MO_editionOf_54 rfl hl (by decide) rfl (fun ls hl => ?_)
            refine lv_iinc (v := nI (n + 1)) (lv' := [(4, .int (nI (n + 1))), (3, .int (nI b)), (0, .ref x), (1, .long (lN day))]) hx hb d_MO_editionOf_55 hl (k := 3) rfl (f_inc1 _) (by decide) rfl (fun ls hl => ?_)
            refine lv_goto (tgt := 5) hx hb d_MO_editionOf_58 (by decide) ?_
            refine ih (n + 1) (by omega) ls ?_
            rw [eo_no (by rw [en]; simp only [eoC, Bool.and_eq_true, decide_eq_true_eq]; omega), en]
            exact lv_sub hl [2, 3, 1, 0] rfl
          · have c_8 : ¬ (ef n) < (ef b) := fun q => c_8 ((pk_lLT (a := (ef n)) (b := (ef b)) (by have := bef n; omega) (by have := bef b; omega)).mpr q)
            refine lv_iload hx hb d_MO_editionOf_48 (lv_at hl 3 rfl) ?_
            refine lv_goto (tgt := 54) hx hb d_MO_editionOf_50 (by decide) ?_
            refine lv_istore_n (lv' := [(3, .int (nI n)), (0, .ref x), (1, .long (lN day)), (4, .int (nI n))]) hx hb d_MO_editionOf_54 rfl hl (by decide) rfl (fun ls hl => ?_)
            refine lv_iinc (v := nI (n + 1)) (lv' := [(4, .int (nI (n + 1))), (3, .int (nI n)), (0, .ref x), (1, .long (lN day))]) hx hb d_MO_editionOf_55 hl (k := 3) rfl (f_inc1 _) (by decide) rfl (fun ls hl => ?_)
            refine lv_goto (tgt := 5) hx hb d_MO_editionOf_58 (by decide) ?_
            refine ih (n + 1) (by omega) ls ?_
            rw [eo_yes (by rw [en]; simp only [eoC, Bool.and_eq_true, decide_eq_true_eq]; exact ⟨by omega, by omega⟩)]
            exact lv_sub hl [2, 3, 1, 0] rfl
  refine lv_iconst (v := (-1)) hx hb d_MO_editionOf_0 (by decide) ?_
  refine lv_istore_n (lv' := [(3, .int (-1)), (0, .ref x), (1, .long (lN day))]) hx hb d_MO_editionOf_1 rfl hl (by decide) rfl (fun ls hl => ?_)
  refine lv_iconst (v := 0) hx hb d_MO_editionOf_2 (by decide) ?_
  refine lv_istore (lv' := [(4, .int 0), (3, .int (-1)), (0, .ref x), (1, .long (lN day))]) hx hb d_MO_editionOf_3 hl (by decide) rfl (fun ls hl => ?_)
  refine LOOP ne 0 (by omega) ls ?_
  exact lv_sub hl [2, 3, 1, 0] rfl
theorem gm_MO_find : gM y_MO_find b_MO_find 10 (some .int) 4 := ⟨w_1033, w_10, ⟨by decide, by decide⟩, by decide +kernel⟩
set_option maxHeartbeats 4000000 in
set_option maxRecDepth 100000 in
/-- MO_find  -/
theorem c_MO_find (l : Launch) (G : gG) (h : fH) (sz : Nat) (x e1 K g st : Nat) (mf : Nat → Value) (g_x : h x = some (40, 0, .inr (8, mo mf))) (ne : Nat) (ef rr rm : Nat → Nat) (hEd : mEd G h mf ne ef rr rm) (be : e1 < 11) (bK : K < 2 ^ 31) (bg : g < 2 ^ 31) (bst : st < 2 ^ 31) : cM l y_MO_find b_MO_find 10 (some .int) { frames := 0, cells := 0, slots := 0, locals := 0 } G [.ref x, .int (nI e1), .int (nI K), .long (lN g), .long (lN st)] h sz (cQi G h sz (fun r h' => r = oN (ff (fp rr e1 K g st) 0 (rm e1)) ∧ h' = h)) := by
  refine f_start (by decide) (Nat.le_of_ble_eq_true rfl) ?_
  intro p e s m below meth c ls C hr hsz hI hl
  obtain ⟨hx, hb, hml, hown, hnm, hlk, hT, hG, hZ⟩ := id C
  have hK := hG.1
  have hX : fX h sz h := fX.rf
  have hl : lv_has ls 10 [(0, .ref x), (1, .int (nI e1)), (2, .int (nI K)), (3, .long (lN g)), (5, .long (lN st))] := hl
  obtain ⟨a3, a4, a5, ⟨v_3, v_4, v_5, v_6⟩, ⟨g_a3, g_a4, g_a5⟩, bne, brm, bef, brr, brk⟩ := hEd
  have bm := brm e1
  have LOOP : ∀ (k n : Nat), n + k = rm e1 → ff (fp rr e1 K g st) 0 (rm e1) = ff (fp rr e1 K g st) n k → ∀ ls : Array Slot, lv_has ls 10 [(0, .ref x), (1, .int (nI e1)), (2, .int (nI K)), (3, .long (lN g)), (5, .long (lN st)), (7, .int (nI n))] → W p l e { frames := 0, cells := 0, slots := 0, locals := 0 } s m ([.ref x, .int (nI e1), .int (nI K), .long (lN g), .long (lN st)] : List Value).toArray below meth c s.heap [] 0 0 (MQ below (cQi G h sz (fun r h' => r = oN (ff (fp rr e1 K g st) 0 (rm e1)) ∧ h' = h)) ([.ref x, .int (nI e1), .int (nI K), .long (lN g), .long (lN st)] : List Value).toArray s 0 0 (fA h sz)) (F0 m 3 ls []) := by
    intro k
    induction k with
    | zero =>
      intro n hn hff ls hl
      refine lv_iload hx hb d_MO_find_3 (lv_at hl 5 rfl) ?_
      refine lv_aload_n hx hb d_MO_find_5 rfl (lv_at hl 0 rfl) ?_
      refine f_get (C := "DutyRulesModel") (T := T_MO) (N := 40) hx hb (fun w q => hT w (s_MO w q)) hown hK hI g_x rfl 4 (by decide) (hT _ w_813) (fun _ q => q) (mo_get (by decide) v_4) d_MO_find_6 ?_
      refine lv_iload_n hx hb d_MO_find_9 rfl (lv_at hl 1 rfl) ?_
      refine f_ialdn (k := e1) (v := (nI (rm e1))) hx hb hI g_a4 (fT.ofK hK (t0 := 0) rfl) (by omega) (by omega) rfl d_MO_find_10 ?_
      refine lv_icmp_ge (tgt := 113) hx hb d_MO_find_11 (by decide) (fun c_1 => ?_) (fun c_1 => absurd ((n_le (by omega) (by omega)).mpr (by omega)) c_1)
      refine lv_iconst (v := (-1)) hx hb d_MO_find_113 (by decide) ?_
      exact f_iret C hr hI ⟨by rw [hff]; rfl, rfl⟩ hX (Nat.le_refl _) (Nat.le_refl _) d_MO_find_114
    | succ k ih =>
      intro n hn hff ls hl
      have hn2 : n < rm e1 := by omega
      have ih : ∀ n : Nat, n + k = rm e1 → ff (fp rr e1 K g st) 0 (rm e1) = ff (fp rr e1 K g st) n k → ∀ ls : Array Slot, lv_has ls 10 [(0, .ref x), (1, .int (nI e1)), (2, .int (nI K)), (3, .long (lN g)), (5, .long (lN st)), (7, .int (nI n))] → W p l e { frames := 0, cells := 0, slots := 0, locals := 0 } s m ([.ref x, .int (nI e1), .int (nI K), .long (lN g), .long (lN st)] : List Value).toArray below meth c s.heap [] 0 0 (MQ below (cQi G h sz (fun r h' => r = oN (ff (fp rr e1 K g st) 0 (rm e1)) ∧ h' = h)) ([.ref x, .int (nI e1), .int (nI K), .long (lN g), .long (lN st)] : List Value).toArray s 0 0 (fA h sz)) (F0 m 3 ls []) := ih
      refine lv_iload hx hb d_MO_find_3 (lv_at hl 5 rfl) ?_
      refine lv_aload_n hx hb d_MO_find_5 rfl (lv_at hl 0 rfl) ?_
      refine f_get (C := "DutyRulesModel") (T := T_MO) (N := 40) hx hb (fun w q => hT w (s_MO w q)) hown hK hI g_x rfl 4 (by decide) (hT _ w_813) (fun _ q => q) (mo_get (by decide) v_4) d_MO_find_6 ?_
      refine lv_iload_n hx hb d_MO_find_9 rfl (lv_at hl 1 rfl) ?_
      refine f_ialdn (k := e1) (v := (nI (rm e1))) hx hb hI g_a4 (fT.ofK hK (t0 := 0) rfl) (by omega) (by omega) rfl d_MO_find_10 ?_
      refine lv_icmp_ge (tgt := 113) hx hb d_MO_find_11 (by decide) (fun c_2 => absurd c_2 (fun q => absurd ((n_le (by omega) (by omega)).mp q) (by omega))) (fun c_2 => ?_)
      refine lv_iload_n hx hb d_MO_find_14 rfl (lv_at hl 1 rfl) ?_
      refine lv_bipush (v := 40) hx hb d_MO_find_15 (by decide) ?_
      refine lv_imul hx hb d_MO_find_17 ?_
      refine f_asi (pk_mul e1 40) ?_
      refine lv_iload hx hb d_MO_find_18 (lv_at hl 5 rfl) ?_
      refine lv_iadd hx hb d_MO_find_20 ?_
      refine f_asi (nI_add (e1 * 40) n) ?_
      refine lv_iconst (v := 5) hx hb d_MO_find_21 (by decide) ?_
      refine lv_imul hx hb d_MO_find_22 ?_
      refine f_asi (pk_mul ((e1 * 40) + n) 5) ?_
      refine lv_istore (lv' := [(8, .int (nI (((e1 * 40) + n) * 5))), (0, .ref x), (1, .int (nI e1)), (2, .int (nI K)), (3, .long (lN g)), (5, .long (lN st)), (7, .int (nI n))]) hx hb d_MO_find_23 hl (by decide) rfl (fun ls hl => ?_)
      refine lv_aload_n hx hb d_MO_find_25 rfl (lv_at hl 1 rfl) ?_
      refine f_get (C := "DutyRulesModel") (T := T_MO) (N := 40) hx hb (fun w q => hT w (s_MO w q)) hown hK hI g_x rfl 3 (by decide) (hT _ w_812) (fun _ q => q) (mo_get (by decide) v_3) d_MO_find_26 ?_
      refine lv_iload hx hb d_MO_find_29 (lv_at hl 0 rfl) ?_
      refine f_ialdn (k := (((e1 * 40) + n) * 5)) (v := (nI (rr (((e1 * 40) + n) * 5)))) hx hb hI g_a3 (fT.ofK hK (t0 := 0) rfl) (by omega) (by omega) rfl d_MO_find_31 ?_
      refine lv_iload_n hx hb d_MO_find_32 rfl (lv_at hl 3 rfl) ?_
      refine lv_icmp_ne (tgt := 60) hx hb d_MO_find_33 (by decide) (fun c_3 => ?_) (fun c_3 => ?_)
      · have c_3 : ¬ (rr (((e1 * 40) + n) * 5)) = K := fun q => c_3 ((n_eq (a := (rr (((e1 * 40) + n) * 5))) (b := K) (by have := brr (((e1 * 40) + n) * 5); omega) (by omega)).mpr q)
        refine lv_iconst (v := 0) hx hb d_MO_find_60 (by decide) ?_
        refine lv_istore (lv' := [(9, .int 0), (8, .int (nI (((e1 * 40) + n) * 5))), (0, .ref x), (1, .int (nI e1)), (2, .int (nI K)), (3, .long (lN g)), (5, .long (lN st)), (7, .int (nI n))]) hx hb d_MO_find_61 hl (by decide) rfl (fun ls hl => ?_)
        refine lv_iload hx hb d_MO_find_63 (lv_at hl 0 rfl) ?_
        refine lv_if_eq (tgt := 107) hx hb d_MO_find_65 (by decide) (fun c_4 => ?_) (fun c_4 => absurd (by decide) c_4)
        refine lv_iinc (v := nI (n + 1)) (lv' := [(7, .int (nI (n + 1))), (9, .int 0), (8, .int (nI (((e1 * 40) + n) * 5))), (0, .ref x), (1, .int (nI e1)), (2, .int (nI K)), (3, .long (lN g)), (5, .long (lN st))]) hx hb d_MO_find_107 hl (k := 7) rfl (f_inc1 _) (by decide) rfl (fun ls hl => ?_)
        refine lv_goto (tgt := 3) hx hb d_MO_find_110 (by decide) ?_
        have hP : ¬ fp rr e1 K g st n = true := by unfold fp; simp only [decide_eq_true_eq]; omega
        refine ih (n + 1) (by omega) (hff.trans ?_) ls ?_
        · show (if _ then _ else _) = _
          exact if_neg hP
        exact lv_sub hl [3, 4, 5, 6, 7, 0] rfl
      · have c_3 : (rr (((e1 * 40) + n) * 5)) = K := (n_eq (a := (rr (((e1 * 40) + n) * 5))) (b := K) (by have := brr (((e1 * 40) + n) * 5); omega) (by omega)).mp c_3
        refine lv_iload_n hx hb d_MO_find_36 rfl (lv_at hl 3 rfl) ?_
        refine lv_iconst (v := 4) hx hb d_MO_find_37 (by decide) ?_
        refine lv_icmp_ge (tgt := 56) hx hb d_MO_find_38 (by decide) (fun c_5 => ?_) (fun c_5 => ?_)
        · have c_5 : 4 ≤ K := (n_le (a := 4) (b := K) (by omega) (by omega)).mp c_5
          refine lv_iconst (v := 1) hx hb d_MO_find_56 (by decide) ?_
          refine lv_goto (tgt := 61) hx hb d_MO_find_57 (by decide) ?_
          refine lv_istore (lv' := [(9, .int 1), (8, .int (nI (((e1 * 40) + n) * 5))), (0, .ref x), (1, .int (nI e1)), (2, .int (nI K)), (3, .long (lN g)), (5, .long (lN st)), (7, .int (nI n))]) hx hb d_MO_find_61 hl (by decide) rfl (fun ls hl => ?_)
          refine lv_iload hx hb d_MO_find_63 (lv_at hl 0 rfl) ?_
          refine lv_if_eq (tgt := 107) hx hb d_MO_find_65 (by decide) (fun c_6 => absurd c_6 (by decide)) (fun c_6 => ?_)
          refine lv_iload_n hx hb d_MO_find_68 rfl (lv_at hl 4 rfl) ?_
          refine lv_if_ne (tgt := 104) hx hb d_MO_find_69 (by decide) (fun c_7 => ?_) (fun c_7 => ?_)
          · have c_7 : ¬ K = 0 := fun q => c_7 ((n_eq (a := K) (b := 0) (by omega) (by omega)).mpr q)
            refine lv_iload hx hb d_MO_find_104 (lv_at hl 7 rfl) ?_
            exact f_iret C hr hI ⟨by rw [hff, show ff (fp rr e1 K g st) n (k + 1) = some n from if_pos (by unfold fp; simp only [decide_eq_true_eq]; omega)]; rfl, rfl⟩ hX (Nat.le_refl _) (Nat.le_refl _) d_MO_find_106
          · have c_7 : K = 0 := (n_eq (a := K) (b := 0) (by omega) (by omega)).mp c_7
            refine lv_aload_n hx hb d_MO_find_72 rfl (lv_at hl 2 rfl) ?_
            refine f_get (C := "DutyRulesModel") (T := T_MO) (N := 40) hx hb (fun w q => hT w (s_MO w q)) hown hK hI g_x rfl 3 (by decide) (hT _ w_812) (fun _ q => q) (mo_get (by decide) v_3) d_MO_find_73 ?_
            refine lv_iload hx hb d_MO_find_76 (lv_at hl 1 rfl) ?_
            refine lv_iconst (v := 2) hx hb d_MO_find_78 (by decide) ?_
            refine lv_iadd hx hb d_MO_find_79 ?_
            refine f_asi (nI_add (((e1 * 40) + n) * 5) 2) ?_
            refine f_ialdn (k := ((((e1 * 40) + n) * 5) + 2)) (v := (nI (rr ((((e1 * 40) + n) * 5) + 2)))) hx hb hI g_a3 (fT.ofK hK (t0 := 0) rfl) (by omega) (by omega) rfl d_MO_find_80 ?_
            refine lv_i2l (v := lN (rr ((((e1 * 40) + n) * 5) + 2))) hx hb d_MO_find_81 (n_i2l (by have := brr ((((e1 * 40) + n) * 5) + 2); omega)) ?_
            refine lv_lload hx hb d_MO_find_82 (lv_at hl 6 rfl) ?_
            refine f_lc_gt (tgt := 107) hx hb d_MO_find_84 d_MO_find_85 (by decide) (fun c_8 => ?_) (fun c_8 => ?_)
            · have c_8 : st < (rr ((((e1 * 40) + n) * 5) + 2)) := (pk_lLT (a := st) (b := (rr ((((e1 * 40) + n) * 5) + 2))) (by omega) (by have := brr ((((e1 * 40) + n) * 5) + 2); omega)).mp c_8
              refine lv_iinc (v := nI (n + 1)) (lv' := [(7, .int (nI (n + 1))), (9, .int 1), (8, .int (nI (((e1 * 40) + n) * 5))), (0, .ref x), (1, .int (nI e1)), (2, .int (nI K)), (3, .long (lN g)), (5, .long (lN st))]) hx hb d_MO_find_107 hl (k := 7) rfl (f_inc1 _) (by decide) rfl (fun ls hl => ?_)
              refine lv_goto (tgt := 3) hx hb d_MO_find_110 (by decide) ?_
              have hP : ¬ fp rr e1 K g st n = true := by unfold fp; simp only [decide_eq_true_eq]; omega
              refine ih (n + 1) (by omega) (hff.trans ?_) ls ?_
              · show (if _ then _ else _) = _
                exact if_neg hP
              exact lv_sub hl [3, 4, 5, 6, 7, 0] rfl
            · have c_8 : ¬ st < (rr ((((e1 * 40) + n) * 5) + 2)) := fun q => c_8 ((pk_lLT (a := st) (b := (rr ((((e1 * 40) + n) * 5) + 2))) (by omega) (by have := brr ((((e1 * 40) + n) * 5) + 2); omega)).mpr q)
              refine lv_lload hx hb d_MO_find_88 (lv_at hl 6 rfl) ?_
              refine lv_aload_n hx hb d_MO_find_90 rfl (lv_at hl 2 rfl) ?_
              refine f_get (C := "DutyRulesModel") (T := T_MO) (N := 40) hx hb (fun w q => hT w (s_MO w q)) hown hK hI g_x rfl 3 (by decide) (hT _ w_812) (fun _ q => q) (mo_get (by decide) v_3) d_MO_find_91 ?_
              refine lv_iload hx hb d_MO_find_94 (lv_at hl 1 rfl) ?_
              refine lv_iconst (v := 3) hx hb d_MO_find_96 (by decide) ?_
              refine lv_iadd hx hb d_MO_find_97 ?_
              refine f_asi (nI_add (((e1 * 40) + n) * 5) 3) ?_
              refine f_ialdn (k := ((((e1 * 40) + n) * 5) + 3)) (v := (nI (rr ((((e1 * 40) + n) * 5) + 3)))) hx hb hI g_a3 (fT.ofK hK (t0 := 0) rfl) (by omega) (by omega) rfl d_MO_find_98 ?_
              refine lv_i2l (v := lN (rr ((((e1 * 40) + n) * 5) + 3))) hx hb d_MO_find_99 (n_i2l (by have := brr ((((e1 * 40) + n) * 5) + 3); omega)) ?_
              refine f_lc_ge (tgt := 107) hx hb d_MO_find_100 d_MO_find_101 (by decide) (fun c_9 => ?_) (fun c_9 => ?_)
              · have c_9 : (rr ((((e1 * 40) + n) * 5) + 3)) ≤ st := (pk_lLE (a := (rr ((((e1 * 40) + n) * 5) + 3))) (b := st) (by have := brr ((((e1 * 40) + n) * 5) + 3); omega) (by omega)).mp c_9
                refine lv_iinc (v := nI (n + 1)) (lv' := [(7, .int (nI (n + 1))), (9, .int 1), (8, .int (nI (((e1 * 40) + n) * 5))), (0, .ref x), (1, .int (nI e1)), (2, .int (nI K)), (3, .long (lN g)), (5, .long (lN st))]) hx hb d_MO_find_107 hl (k := 7) rfl (f_inc1 _) (by decide) rfl (fun ls hl => ?_)
                refine lv_goto (tgt := 3) hx hb d_MO_find_110 (by decide) ?_
                have hP : ¬ fp rr e1 K g st n = true := by unfold fp; simp only [decide_eq_true_eq]; omega
                refine ih (n + 1) (by omega) (hff.trans ?_) ls ?_
                · show (if _ then _ else _) = _
                  exact if_neg hP
                exact lv_sub hl [3, 4, 5, 6, 7, 0] rfl
              · have c_9 : ¬ (rr ((((e1 * 40) + n) * 5) + 3)) ≤ st := fun q => c_9 ((pk_lLE (a := (rr ((((e1 * 40) + n) * 5) + 3))) (b := st) (by have := brr ((((e1 * 40) + n) * 5) + 3); omega) (by omega)).mpr q)
                refine lv_iload hx hb d_MO_find_104 (lv_at hl 7 rfl) ?_
                exact f_iret C hr hI ⟨by rw [hff, show ff (fp rr e1 K g st) n (k + 1) = some n from if_pos (by unfold fp; simp only [decide_eq_true_eq]; omega)]; rfl, rfl⟩ hX (Nat.le_refl _) (Nat.le_refl _) d_MO_find_106
        · have c_5 : ¬ 4 ≤ K := fun q => c_5 ((n_le (a := 4) (b := K) (by omega) (by omega)).mpr q)
          refine lv_aload_n hx hb d_MO_find_41 rfl (lv_at hl 1 rfl) ?_
          refine f_get (C := "DutyRulesModel") (T := T_MO) (N := 40) hx hb (fun w q => hT w (s_MO w q)) hown hK hI g_x rfl 3 (by decide) (hT _ w_812) (fun _ q => q) (mo_get (by decide) v_3) d_MO_find_42 ?_
          refine lv_iload hx hb d_MO_find_45 (lv_at hl 0 rfl) ?_
          refine lv_iconst (v := 1) hx hb d_MO_find_47 (by decide) ?_
          refine lv_iadd hx hb d_MO_find_48 ?_
          refine f_asi (nI_add (((e1 * 40) + n) * 5) 1) ?_
          refine f_ialdn (k := ((((e1 * 40) + n) * 5) + 1)) (v := (nI (rr ((((e1 * 40) + n) * 5) + 1)))) hx hb hI g_a3 (fT.ofK hK (t0 := 0) rfl) (by omega) (by omega) rfl d_MO_find_49 ?_
          refine lv_i2l (v := lN (rr ((((e1 * 40) + n) * 5) + 1))) hx hb d_MO_find_50 (n_i2l (by have := brr ((((e1 * 40) + n) * 5) + 1); omega)) ?_
          refine lv_lload_n hx hb d_MO_find_51 rfl (lv_at hl 4 rfl) ?_
          refine f_lc_ne (tgt := 60) hx hb d_MO_find_52 d_MO_find_53 (by decide) (fun c_10 => ?_) (fun c_10 => ?_)
          · have c_10 : ¬ (rr ((((e1 * 40) + n) * 5) + 1)) = g := fun q => c_10 ((pk_lEQ (a := (rr ((((e1 * 40) + n) * 5) + 1))) (b := g) (by have := brr ((((e1 * 40) + n) * 5) + 1); omega) (by omega)).mpr q)
            refine lv_iconst (v := 0) hx hb d_MO_find_60 (by decide) ?_
            refine lv_istore (lv' := [(9, .int 0), (8, .int (nI (((e1 * 40) + n) * 5))), (0, .ref x), (1, .int (nI e1)), (2, .int (nI K)), (3, .long (lN g)), (5, .long (lN st)), (7, .int (nI n))]) hx hb d_MO_find_61 hl (by decide) rfl (fun ls hl => ?_)
            refine lv_iload hx hb d_MO_find_63 (lv_at hl 0 rfl) ?_
            refine lv_if_eq (tgt := 107) hx hb d_MO_find_65 (by decide) (fun c_11 => ?_) (fun c_11 => absurd (by decide) c_11)
            refine lv_iinc (v := nI (n + 1)) (lv' := [(7, .int (nI (n + 1))), (9, .int 0), (8, .int (nI (((e1 * 40) + n) * 5))), (0, .ref x), (1, .int (nI e1)), (2, .int (nI K)), (3, .long (lN g)), (5, .long (lN st))]) hx hb d_MO_find_107 hl (k := 7) rfl (f_inc1 _) (by decide) rfl (fun ls hl => ?_)
            refine lv_goto (tgt := 3) hx hb d_MO_find_110 (by decide) ?_
            have hP : ¬ fp rr e1 K g st n = true := by unfold fp; simp only [decide_eq_true_eq]; omega
            refine ih (n + 1) (by omega) (hff.trans ?_) ls ?_
            · show (if _ then _ else _) = _
              exact if_neg hP
            exact lv_sub hl [3, 4, 5, 6, 7, 0] rfl
          · have c_10 : (rr ((((e1 * 40) + n) * 5) + 1)) = g := (pk_lEQ (a := (rr ((((e1 * 40) + n) * 5) + 1))) (b := g) (by have := brr ((((e1 * 40) + n) * 5) + 1); omega) (by omega)).mp c_10
            refine lv_iconst (v := 1) hx hb d_MO_find_56 (by decide) ?_
            refine lv_goto (tgt := 61) hx hb d_MO_find_57 (by decide) ?_
            refine lv_istore (lv' := [(9, .int 1), (8, .int (nI (((e1 * 40) + n) * 5))), (0, .ref x), (1, .int (nI e1)), (2, .int (nI K)), (3, .long (lN g)), (5, .long (lN st)), (7, .int (nI n))]) hx hb d_MO_find_61 hl (by decide) rfl (fun ls hl => ?_)
            refine lv_iload hx hb d_MO_find_63 (lv_at hl 0 rfl) ?_
            refine lv_if_eq (tgt := 107) hx hb d_MO_find_65 (by decide) (fun c_12 => absurd c_12 (by decide)) (fun c_12 => ?_)
            refine lv_iload_n hx hb d_MO_find_68 rfl (lv_at hl 4 rfl) ?_
            refine lv_if_ne (tgt := 104) hx hb d_MO_find_69 (by decide) (fun c_13 => ?_) (fun c_13 => ?_)
            · have c_13 : ¬ K = 0 := fun q => c_13 ((n_eq (a := K) (b := 0) (by omega) (by omega)).mpr q)
              refine lv_iload hx hb d_MO_find_104 (lv_at hl 7 rfl) ?_
              exact f_iret C hr hI ⟨by rw [hff, show ff (fp rr e1 K g st) n (k + 1) = some n from if_pos (by unfold fp; simp only [decide_eq_true_eq]; omega)]; rfl, rfl⟩ hX (Nat.le_refl _) (Nat.le_refl _) d_MO_find_106
            · have c_13 : K = 0 := (n_eq (a := K) (b := 0) (by omega) (by omega)).mp c_13
              refine lv_aload_n hx hb d_MO_find_72 rfl (lv_at hl 2 rfl) ?_
              refine f_get (C := "DutyRulesModel") (T := T_MO) (N := 40) hx hb (fun w q => hT w (s_MO w q)) hown hK hI g_x rfl 3 (by decide) (hT _ w_812) (fun _ q => q) (mo_get (by decide) v_3) d_MO_find_73 ?_
              refine lv_iload hx hb d_MO_find_76 (lv_at hl 1 rfl) ?_
              refine lv_iconst (v := 2) hx hb d_MO_find_78 (by decide) ?_
              refine lv_iadd hx hb d_MO_find_79 ?_
              refine f_asi (nI_add (((e1 * 40) + n) * 5) 2) ?_
              refine f_ialdn (k := ((((e1 * 40) + n) * 5) + 2)) (v := (nI (rr ((((e1 * 40) + n) * 5) + 2)))) hx hb hI g_a3 (fT.ofK hK (t0 := 0) rfl) (by omega) (by omega) rfl d_MO_find_80 ?_
              refine lv_i2l (v := lN (rr ((((e1 * 40) + n) * 5) + 2))) hx hb d_MO_find_81 (n_i2l (by have := brr ((((e1 * 40) + n) * 5) + 2); omega)) ?_
              refine lv_lload hx hb d_MO_find_82 (lv_at hl 6 rfl) ?_
              refine f_lc_gt (tgt := 107) hx hb d_MO_find_84 d_MO_find_85 (by decide) (fun c_14 => ?_) (fun c_14 => ?_)
              · have c_14 : st < (rr ((((e1 * 40) + n) * 5) + 2)) := (pk_lLT (a := st) (b := (rr ((((e1 * 40) + n) * 5) + 2))) (by omega) (by have := brr ((((e1 * 40) + n) * 5) + 2); omega)).mp c_14
                refine lv_iinc (v := nI (n + 1)) (lv' := [(7, .int (nI (n + 1))), (9, .int 1), (8, .int (nI (((e1 * 40) + n) * 5))), (0, .ref x), (1, .int (nI e1)), (2, .int (nI K)), (3, .long (lN g)), (5, .long (lN st))]) hx hb d_MO_find_107 hl (k := 7) rfl (f_inc1 _) (by decide) rfl (fun ls hl => ?_)
                refine lv_goto (tgt := 3) hx hb d_MO_find_110 (by decide) ?_
                have hP : ¬ fp rr e1 K g st n = true := by unfold fp; simp only [decide_eq_true_eq]; omega
                refine ih (n + 1) (by omega) (hff.trans ?_) ls ?_
                · show (if _ then _ else _) = _
                  exact if_neg hP
                exact lv_sub hl [3, 4, 5, 6, 7, 0] rfl
              · have c_14 : ¬ st < (rr ((((e1 * 40) + n) * 5) + 2)) := fun q => c_14 ((pk_lLT (a := st) (b := (rr ((((e1 * 40) + n) * 5) + 2))) (by omega) (by have := brr ((((e1 * 40) + n) * 5) + 2); omega)).mpr q)
                refine lv_lload hx hb d_MO_find_88 (lv_at hl 6 rfl) ?_
                refine lv_aload_n hx hb d_MO_find_90 rfl (lv_at hl 2 rfl) ?_
                refine f_get (C := "DutyRulesModel") (T := T_MO) (N := 40) hx hb (fun w q => hT w (s_MO w q)) hown hK hI g_x rfl 3 (by decide) (hT _ w_812) (fun _ q => q) (mo_get (by decide) v_3) d_MO_find_91 ?_
                refine lv_iload hx hb d_MO_find_94 (lv_at hl 1 rfl) ?_
                refine lv_iconst (v := 3) hx hb d_MO_find_96 (by decide) ?_
                refine lv_iadd hx hb d_MO_find_97 ?_
                refine f_asi (nI_add (((e1 * 40) + n) * 5) 3) ?_
                refine f_ialdn (k := ((((e1 * 40) + n) * 5) + 3)) (v := (nI (rr ((((e1 * 40) + n) * 5) + 3)))) hx hb hI g_a3 (fT.ofK hK (t0 := 0) rfl) (by omega) (by omega) rfl d_MO_find_98 ?_
                refine lv_i2l (v := lN (rr ((((e1 * 40) + n) * 5) + 3))) hx hb d_MO_find_99 (n_i2l (by have := brr ((((e1 * 40) + n) * 5) + 3); omega)) ?_
                refine f_lc_ge (tgt := 107) hx hb d_MO_find_100 d_MO_find_101 (by decide) (fun c_15 => ?_) (fun c_15 => ?_)
                · have c_15 : (rr ((((e1 * 40) + n) * 5) + 3)) ≤ st := (pk_lLE (a := (rr ((((e1 * 40) + n) * 5) + 3))) (b := st) (by have := brr ((((e1 * 40) + n) * 5) + 3); omega) (by omega)).mp c_15
                  refine lv_iinc (v := nI (n + 1)) (lv' := [(7, .int (nI (n + 1))), (9, .int 1), (8, .int (nI (((e1 * 40) + n) * 5))), (0, .ref x), (1, .int (nI e1)), (2, .int (nI K)), (3, .long (lN g)), (5, .long (lN st))]) hx hb d_MO_find_107 hl (k := 7) rfl (f_inc1 _) (by decide) rfl (fun ls hl => ?_)
                  refine lv_goto (tgt := 3) hx hb d_MO_find_110 (by decide) ?_
                  have hP : ¬ fp rr e1 K g st n = true := by unfold fp; simp only [decide_eq_true_eq]; omega
                  refine ih (n + 1) (by omega) (hff.trans ?_) ls ?_
                  · show (if _ then _ else _) = _
                    exact if_neg hP
                  exact lv_sub hl [3, 4, 5, 6, 7, 0] rfl
                · have c_15 : ¬ (rr ((((e1 * 40) + n) * 5) + 3)) ≤ st := fun q => c_15 ((pk_lLE (a := (rr ((((e1 * 40) + n) * 5) + 3))) (b := st) (by have := brr ((((e1 * 40) + n) * 5) + 3); omega) (by omega)).mpr q)
                  refine lv_iload hx hb d_MO_find_104 (lv_at hl 7 rfl) ?_
                  exact f_iret C hr hI ⟨by rw [hff, show ff (fp rr e1 K g st) n (k + 1) = some n from if_pos (by unfold fp; simp only [decide_eq_true_eq]; omega)]; rfl, rfl⟩ hX (Nat.le_refl _) (Nat.le_refl _) d_MO_find_106
  refine lv_iconst (v := 0) hx hb d_MO_find_0 (by decide) ?_
  refine lv_istore (lv' := [(7, .int 0), (0, .ref x), (1, .int (nI e1)), (2, .int (nI K)), (3, .long (lN g)), (5, .long (lN st))]) hx hb d_MO_find_1 hl (by decide) rfl (fun ls hl => ?_)
  refine LOOP (rm e1) 0 (by omega) rfl ls ?_
  exact lv_sub hl [1, 2, 3, 4, 5, 0] rfl
theorem gm_MO_value : gM y_MO_value b_MO_value 4 (some .int) 3 := ⟨w_1037, w_10, ⟨by decide, by decide⟩, by decide +kernel⟩
set_option maxHeartbeats 4000000 in
set_option maxRecDepth 100000 in
/-- MO_value  -/
theorem c_MO_value (l : Launch) (G : gG) (h : fH) (sz : Nat) (x e1 n k : Nat) (mf : Nat → Value) (g_x : h x = some (40, 0, .inr (8, mo mf))) (ne : Nat) (ef rr rm : Nat → Nat) (hEd : mEd G h mf ne ef rr rm) (be : e1 < 11) (bn : n < 40) (bk : k < 5) : cM l y_MO_value b_MO_value 4 (some .int) { frames := 0, cells := 0, slots := 0, locals := 0 } G [.ref x, .int (nI e1), .int (nI n), .int (nI k)] h sz (cQi G h sz (fun r h' => r = nI (rr ((e1 * 40 + n) * 5 + k)) ∧ h' = h)) := by
  refine f_start (by decide) (Nat.le_of_ble_eq_true rfl) ?_
  intro p e s m below meth c ls C hr hsz hI hl
  obtain ⟨hx, hb, hml, hown, hnm, hlk, hT, hG, hZ⟩ := id C
  have hK := hG.1
  have hX : fX h sz h := fX.rf
  have hl : lv_has ls 4 [(0, .ref x), (1, .int (nI e1)), (2, .int (nI n)), (3, .int (nI k))] := hl
  obtain ⟨a3, a4, a5, ⟨v_3, v_4, v_5, v_6⟩, ⟨g_a3, g_a4, g_a5⟩, bne, brm, bef, brr, brk⟩ := hEd
  refine lv_aload_n hx hb d_MO_value_0 rfl (lv_at hl 0 rfl) ?_
  refine f_get (C := "DutyRulesModel") (T := T_MO) (N := 40) hx hb (fun w q => hT w (s_MO w q)) hown hK hI g_x rfl 3 (by decide) (hT _ w_812) (fun _ q => q) (mo_get (by decide) v_3) d_MO_value_1 ?_
  refine lv_iload_n hx hb d_MO_value_4 rfl (lv_at hl 1 rfl) ?_
  refine lv_bipush (v := 40) hx hb d_MO_value_5 (by decide) ?_
  refine lv_imul hx hb d_MO_value_7 ?_
  refine f_asi (pk_mul e1 40) ?_
  refine lv_iload_n hx hb d_MO_value_8 rfl (lv_at hl 2 rfl) ?_
  refine lv_iadd hx hb d_MO_value_9 ?_
  refine f_asi (nI_add (e1 * 40) n) ?_
  refine lv_iconst (v := 5) hx hb d_MO_value_10 (by decide) ?_
  refine lv_imul hx hb d_MO_value_11 ?_
  refine f_asi (pk_mul ((e1 * 40) + n) 5) ?_
  refine lv_iload_n hx hb d_MO_value_12 rfl (lv_at hl 3 rfl) ?_
  refine lv_iadd hx hb d_MO_value_13 ?_
  refine f_asi (nI_add (((e1 * 40) + n) * 5) k) ?_
  refine f_ialdn (k := ((((e1 * 40) + n) * 5) + k)) (v := (nI (rr ((((e1 * 40) + n) * 5) + k)))) hx hb hI g_a3 (fT.ofK hK (t0 := 0) rfl) (by omega) (by omega) rfl d_MO_value_14 ?_
  exact f_iret C hr hI ⟨rfl, rfl⟩ hX (Nat.le_refl _) (Nat.le_refl _) d_MO_value_15
theorem gm_MO_divisor : gM y_MO_divisor b_MO_divisor 10 (some .long) 2 := ⟨w_1052, w_10, ⟨by decide, by decide⟩, by decide +kernel⟩
set_option maxHeartbeats 4000000 in
set_option maxRecDepth 100000 in
/-- MO_divisor  -/
theorem c_MO_divisor (l : Launch) (G : gG) (h : fH) (sz : Nat) (a b : Nat) (ba : a < 2 ^ 63) (bb : b < 2 ^ 63) : cM l y_MO_divisor b_MO_divisor 10 (some .long) { frames := 0, cells := 0, slots := 0, locals := 0 } G [.long (lN a), .long (lN b)] h sz (cQl G h sz (fun r h' => r = lN (Nat.gcd a b) ∧ h' = h)) := by
  refine f_start (by decide) (Nat.le_of_ble_eq_true rfl) ?_
  intro p e s m below meth c ls C hr hsz hI hl
  obtain ⟨hx, hb, hml, hown, hnm, hlk, hT, hG, hZ⟩ := id C
  have hK := hG.1
  have hX : fX h sz h := fX.rf
  have hl : lv_has ls 10 [(0, .long (lN a)), (2, .long (lN b))] := hl
  have LOOP : ∀ (n u v : Nat), v ≤ n → u < 2 ^ 63 → v < 2 ^ 63 → Nat.gcd u v = Nat.gcd a b → ∀ ls : Array Slot, lv_has ls 10 [(0, .long (lN a)), (2, .long (lN b)), (4, .long (lN u)), (6, .long (lN v))] → W p l e { frames := 0, cells := 0, slots := 0, locals := 0 } s m ([.long (lN a), .long (lN b)] : List Value).toArray below meth c s.heap [] 0 0 (MQ below (cQl G h sz (fun r h' => r = lN (Nat.gcd a b) ∧ h' = h)) ([.long (lN a), .long (lN b)] : List Value).toArray s 0 0 (fA h sz)) (F0 m 6 ls []) := by
    intro n
    induction n with
    | zero =>
      intro u v hv bu bv hg ls hl
      have hv0 : v = 0 := by omega
      subst hv0
      refine lv_lload hx hb d_MO_divisor_6 (lv_at hl 3 rfl) ?_
      refine lv_lconst (v := 0) hx hb d_MO_divisor_8 (by decide) ?_
      refine f_lc_eq (tgt := 31) hx hb d_MO_divisor_9 d_MO_divisor_10 (by decide) (fun c_1 => ?_) (fun c_1 => absurd rfl c_1)
      refine lv_lload hx hb d_MO_divisor_31 (lv_at hl 2 rfl) ?_
      exact f_lret C hr hI ⟨by rw [← hg, Nat.gcd_zero_right], rfl⟩ hX (Nat.le_refl _) (Nat.le_refl _) d_MO_divisor_33
    | succ n ih =>
      intro u v hv bu bv hg ls hl
      have ih : ∀ (u v : Nat), v ≤ n → u < 2 ^ 63 → v < 2 ^ 63 → Nat.gcd u v = Nat.gcd a b → ∀ ls : Array Slot, lv_has ls 10 [(0, .long (lN a)), (2, .long (lN b)), (4, .long (lN u)), (6, .long (lN v))] → W p l e { frames := 0, cells := 0, slots := 0, locals := 0 } s m ([.long (lN a), .long (lN b)] : List Value).toArray below meth c s.heap [] 0 0 (MQ below (cQl G h sz (fun r h' => r = lN (Nat.gcd a b) ∧ h' = h)) ([.long (lN a), .long (lN b)] : List Value).toArray s 0 0 (fA h sz)) (F0 m 6 ls []) := ih
      refine lv_lload hx hb d_MO_divisor_6 (lv_at hl 3 rfl) ?_
      refine lv_lconst (v := 0) hx hb d_MO_divisor_8 (by decide) ?_
      refine f_lc_eq (tgt := 31) hx hb d_MO_divisor_9 d_MO_divisor_10 (by decide) (fun c_2 => ?_) (fun c_2 => ?_)
      · have c_2 : v = 0 := (pk_lEQ (a := v) (b := 0) (by omega) (by omega)).mp c_2
        refine lv_lload hx hb d_MO_divisor_31 (lv_at hl 2 rfl) ?_
        exact f_lret C hr hI ⟨by rw [← hg, c_2, Nat.gcd_zero_right], rfl⟩ hX (Nat.le_refl _) (Nat.le_refl _) d_MO_divisor_33
      · have c_2 : ¬ v = 0 := fun q => c_2 ((pk_lEQ (a := v) (b := 0) (by omega) (by omega)).mpr q)
        refine lv_lload hx hb d_MO_divisor_13 (lv_at hl 2 rfl) ?_
        refine lv_lload hx hb d_MO_divisor_15 (lv_at hl 3 rfl) ?_
        refine lv_lrem hx hb d_MO_divisor_17 (fun q => c_2 ((pk_lEQ (by omega) (by decide)).mp q)) ?_
        refine f_asl (pk_lRem (a := u) (b := v) bu (by omega) bv) ?_
        refine lv_lstore (lv' := [(8, .long (lN (u % v))), (0, .long (lN a)), (2, .long (lN b)), (4, .long (lN u)), (6, .long (lN v))]) hx hb d_MO_divisor_18 hl (by decide) rfl (fun ls hl => ?_)
        refine lv_lload hx hb d_MO_divisor_20 (lv_at hl 4 rfl) ?_
        refine lv_lstore (lv' := [(4, .long (lN v)), (8, .long (lN (u % v))), (0, .long (lN a)), (2, .long (lN b)), (6, .long (lN v))]) hx hb d_MO_divisor_22 hl (by decide) rfl (fun ls hl => ?_)
        refine lv_lload hx hb d_MO_divisor_24 (lv_at hl 1 rfl) ?_
        refine lv_lstore (lv' := [(6, .long (lN (u % v))), (4, .long (lN v)), (8, .long (lN (u % v))), (0, .long (lN a)), (2, .long (lN b))]) hx hb d_MO_divisor_26 hl (by decide) rfl (fun ls hl => ?_)
        refine lv_goto (tgt := 6) hx hb d_MO_divisor_28 (by decide) ?_
        have hlt : u % v < v := Nat.mod_lt _ (by omega)
        refine ih v (u % v) (by omega) bv (by omega) (by rw [← hg, Nat.gcd_comm u v, Nat.gcd_rec v u, Nat.gcd_comm]) ls ?_
        exact lv_sub hl [3, 4, 1, 0] rfl
  refine lv_lload_n hx hb d_MO_divisor_0 rfl (lv_at hl 0 rfl) ?_
  refine lv_lstore (lv' := [(4, .long (lN a)), (0, .long (lN a)), (2, .long (lN b))]) hx hb d_MO_divisor_1 hl (by decide) rfl (fun ls hl => ?_)
  refine lv_lload_n hx hb d_MO_divisor_3 rfl (lv_at hl 2 rfl) ?_
  refine lv_lstore (lv' := [(6, .long (lN b)), (4, .long (lN a)), (0, .long (lN a)), (2, .long (lN b))]) hx hb d_MO_divisor_4 hl (by decide) rfl (fun ls hl => ?_)
  refine LOOP b a b (Nat.le_refl _) ba bb rfl ls ?_
  exact lv_sub hl [2, 3, 1, 0] rfl
