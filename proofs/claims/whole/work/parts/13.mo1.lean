theorem gm_MO_holds : gM y_MO_holds b_MO_holds 10 (some .int) 4 := ⟨w_1029, w_10, ⟨by decide, by decide⟩, by decide +kernel⟩
set_option maxHeartbeats 4000000 in
set_option maxRecDepth 100000 in
/-- MO_holds  -/
theorem c_MO_holds (l : Launch) (G : gG) (h : fH) (sz : Nat) (x nf lot kind day on : Nat) (fl fk fd fw fv : Nat → Nat) (mf : Nat → Value) (g_x : h x = some (40, 0, .inr (8, mo mf))) (hFc : mFc G h mf nf fl fk fd fw fv) (blot : lot < 2 ^ 31) (bkind : kind < 2 ^ 31) (bday : day < 2 ^ 31) (bon : on < 2 ^ 31) : cM l y_MO_holds b_MO_holds 10 (some .int) { frames := 0, cells := 0, slots := 0, locals := 0 } G [.ref x, .int (nI lot), .int (nI kind), .long (lN day), .long (lN on)] h sz (cQi G h sz (fun r h' => r = bI (hk fl fk fd fw lot kind day on nf) ∧ h' = h)) := by
  refine f_start (by decide) (Nat.le_of_ble_eq_true rfl) ?_
  intro p e s m below meth c ls C hr hsz hI hl
  obtain ⟨hx, hb, hml, hown, hnm, hlk, hT, hG, hZ⟩ := id C
  have hK := hG.1
  have hX : fX h sz h := fX.rf
  have hl : lv_has ls 10 [(0, .ref x), (1, .int (nI lot)), (2, .int (nI kind)), (3, .long (lN day)), (5, .long (lN on))] := hl
  obtain ⟨a7, a8, a9, a10, a11, ⟨v_7, v_8, v_9, v_10, v_11, v_12⟩, ⟨g_a7, g_a8, g_a9, g_a10, g_a11⟩, bnf, bfl, bfk, bfd, bfw, bfv⟩ := hFc
  have LOOP : ∀ (k n : Nat), n + k = nf → ∀ ls : Array Slot, lv_has ls 10 [(0, .ref x), (1, .int (nI lot)), (2, .int (nI kind)), (3, .long (lN day)), (5, .long (lN on)), (7, .int (bI (hk fl fk fd fw lot kind day on n))), (8, .int (nI n))] → W p l e { frames := 0, cells := 0, slots := 0, locals := 0 } s m ([.ref x, .int (nI lot), .int (nI kind), .long (lN day), .long (lN on)] : List Value).toArray below meth c s.heap [] 0 0 (MQ below (cQi G h sz (fun r h' => r = bI (hk fl fk fd fw lot kind day on nf) ∧ h' = h)) ([.ref x, .int (nI lot), .int (nI kind), .long (lN day), .long (lN on)] : List Value).toArray s 0 0 (fA h sz)) (F0 m 6 ls []) := by
    intro k
    induction k with
    | zero =>
      intro n hn ls hl
      refine lv_iload hx hb d_MO_holds_6 (lv_at hl 6 rfl) ?_
      refine lv_aload_n hx hb d_MO_holds_8 rfl (lv_at hl 0 rfl) ?_
      refine f_get (C := "DutyRulesModel") (T := T_MO) (N := 40) hx hb (fun w q => hT w (s_MO w q)) hown hK hI g_x rfl 12 (by decide) (hT _ w_821) (fun _ q => q) (mo_get (by decide) v_12) d_MO_holds_9 ?_
      refine lv_icmp_ge (tgt := 113) hx hb d_MO_holds_12 (by decide) (fun c_1 => ?_) (fun c_1 => absurd ((n_le (by omega) (by omega)).mpr (by omega)) c_1)
      refine lv_iload hx hb d_MO_holds_113 (lv_at hl 5 rfl) ?_
      exact f_iret C hr hI ⟨by rw [show n = nf by omega], rfl⟩ hX (Nat.le_refl _) (Nat.le_refl _) d_MO_holds_115
    | succ k ih =>
      intro n hn ls hl
      have hn2 : n < nf := by omega
      have ih : ∀ n : Nat, n + k = nf → ∀ ls : Array Slot, lv_has ls 10 [(0, .ref x), (1, .int (nI lot)), (2, .int (nI kind)), (3, .long (lN day)), (5, .long (lN on)), (7, .int (bI (hk fl fk fd fw lot kind day on n))), (8, .int (nI n))] → W p l e { frames := 0, cells := 0, slots := 0, locals := 0 } s m ([.ref x, .int (nI lot), .int (nI kind), .long (lN day), .long (lN on)] : List Value).toArray below meth c s.heap [] 0 0 (MQ below (cQi G h sz (fun r h' => r = bI (hk fl fk fd fw lot kind day on nf) ∧ h' = h)) ([.ref x, .int (nI lot), .int (nI kind), .long (lN day), .long (lN on)] : List Value).toArray s 0 0 (fA h sz)) (F0 m 6 ls []) := ih
      rcases hk_ix (fl := fl) (fk := fk) (fd := fd) (fw := fw) (lot := lot) (kind := kind) (day := day) (on := on) n with e0 | ⟨i, hi1, ei, hi3⟩
      · rw [e0, bI_0] at hl
        refine lv_iload hx hb d_MO_holds_6 (lv_at hl 6 rfl) ?_
        refine lv_aload_n hx hb d_MO_holds_8 rfl (lv_at hl 0 rfl) ?_
        refine f_get (C := "DutyRulesModel") (T := T_MO) (N := 40) hx hb (fun w q => hT w (s_MO w q)) hown hK hI g_x rfl 12 (by decide) (hT _ w_821) (fun _ q => q) (mo_get (by decide) v_12) d_MO_holds_9 ?_
        refine lv_icmp_ge (tgt := 113) hx hb d_MO_holds_12 (by decide) (fun c_1 => absurd c_1 (fun q => absurd ((n_le (by omega) (by omega)).mp q) (by omega))) (fun c_1 => ?_)
        refine lv_aload_n hx hb d_MO_holds_15 rfl (lv_at hl 0 rfl) ?_
        refine f_get (C := "DutyRulesModel") (T := T_MO) (N := 40) hx hb (fun w q => hT w (s_MO w q)) hown hK hI g_x rfl 7 (by decide) (hT _ w_816) (fun _ q => q) (mo_get (by decide) v_7) d_MO_holds_16 ?_
        refine lv_iload hx hb d_MO_holds_19 (lv_at hl 6 rfl) ?_
        refine f_ialdn (k := n) (v := (nI (fl n))) hx hb hI g_a7 (fT.ofK hK (t0 := 0) rfl) (by omega) (by omega) rfl d_MO_holds_21 ?_
        refine lv_iload_n hx hb d_MO_holds_22 rfl (lv_at hl 1 rfl) ?_
        refine lv_icmp_ne (tgt := 66) hx hb d_MO_holds_23 (by decide) (fun c_2 => ?_) (fun c_2 => ?_)
        · have c_2 : ¬ (fl n) = lot := fun q => c_2 ((n_eq (a := (fl n)) (b := lot) (by have := bfl n; omega) (by omega)).mpr q)
          refine lv_iconst (v := 0) hx hb d_MO_holds_66 (by decide) ?_
          refine lv_istore (lv' := [(9, .int 0), (0, .ref x), (1, .int (nI lot)), (2, .int (nI kind)), (3, .long (lN day)), (5, .long (lN on)), (7, .int (-1)), (8, .int (nI n))]) hx hb d_MO_holds_67 hl (by decide) rfl (fun ls hl => ?_)
          refine lv_iload hx hb d_MO_holds_69 (lv_at hl 0 rfl) ?_
          refine lv_if_eq (tgt := 103) hx hb d_MO_holds_71 (by decide) (fun c_3 => ?_) (fun c_3 => absurd (by decide) c_3)
          refine lv_iload hx hb d_MO_holds_103 (lv_at hl 6 rfl) ?_
          refine lv_istore (lv' := [(7, .int (-1)), (9, .int 0), (0, .ref x), (1, .int (nI lot)), (2, .int (nI kind)), (3, .long (lN day)), (5, .long (lN on)), (8, .int (nI n))]) hx hb d_MO_holds_105 hl (by decide) rfl (fun ls hl => ?_)
          refine lv_iinc (v := nI (n + 1)) (lv' := [(8, .int (nI (n + 1))), (7, .int (-1)), (9, .int 0), (0, .ref x), (1, .int (nI lot)), (2, .int (nI kind)), (3, .long (lN day)), (5, .long (lN on))]) hx hb d_MO_holds_107 hl (k := 7) rfl (f_inc1 _) (by decide) rfl (fun ls hl => ?_)
          refine lv_goto (tgt := 6) hx hb d_MO_holds_110 (by decide) ?_
          refine ih (n + 1) (by omega) ls ?_
          have e9 : hk fl fk fd fw lot kind day on (n + 1) = hk fl fk fd fw lot kind day on n := hk_no (fun q => by obtain ⟨q1, q2, q3, q4⟩ := q; omega)
          rw [e9]
          rw [e0, bI_0]
          exact lv_sub hl [3, 4, 5, 6, 7, 1, 0] rfl
        · have c_2 : (fl n) = lot := (n_eq (a := (fl n)) (b := lot) (by have := bfl n; omega) (by omega)).mp c_2
          refine lv_aload_n hx hb d_MO_holds_26 rfl (lv_at hl 0 rfl) ?_
          refine f_get (C := "DutyRulesModel") (T := T_MO) (N := 40) hx hb (fun w q => hT w (s_MO w q)) hown hK hI g_x rfl 8 (by decide) (hT _ w_817) (fun _ q => q) (mo_get (by decide) v_8) d_MO_holds_27 ?_
          refine lv_iload hx hb d_MO_holds_30 (lv_at hl 6 rfl) ?_
          refine f_ialdn (k := n) (v := (nI (fk n))) hx hb hI g_a8 (fT.ofK hK (t0 := 0) rfl) (by omega) (by omega) rfl d_MO_holds_32 ?_
          refine lv_iload_n hx hb d_MO_holds_33 rfl (lv_at hl 2 rfl) ?_
          refine lv_icmp_ne (tgt := 66) hx hb d_MO_holds_34 (by decide) (fun c_4 => ?_) (fun c_4 => ?_)
          · have c_4 : ¬ (fk n) = kind := fun q => c_4 ((n_eq (a := (fk n)) (b := kind) (by have := bfk n; omega) (by omega)).mpr q)
            refine lv_iconst (v := 0) hx hb d_MO_holds_66 (by decide) ?_
            refine lv_istore (lv' := [(9, .int 0), (0, .ref x), (1, .int (nI lot)), (2, .int (nI kind)), (3, .long (lN day)), (5, .long (lN on)), (7, .int (-1)), (8, .int (nI n))]) hx hb d_MO_holds_67 hl (by decide) rfl (fun ls hl => ?_)
            refine lv_iload hx hb d_MO_holds_69 (lv_at hl 0 rfl) ?_
            refine lv_if_eq (tgt := 103) hx hb d_MO_holds_71 (by decide) (fun c_5 => ?_) (fun c_5 => absurd (by decide) c_5)
            refine lv_iload hx hb d_MO_holds_103 (lv_at hl 6 rfl) ?_
            refine lv_istore (lv' := [(7, .int (-1)), (9, .int 0), (0, .ref x), (1, .int (nI lot)), (2, .int (nI kind)), (3, .long (lN day)), (5, .long (lN on)), (8, .int (nI n))]) hx hb d_MO_holds_105 hl (by decide) rfl (fun ls hl => ?_)
            refine lv_iinc (v := nI (n + 1)) (lv' := [(8, .int (nI (n + 1))), (7, .int (-1)), (9, .int 0), (0, .ref x), (1, .int (nI lot)), (2, .int (nI kind)), (3, .long (lN day)), (5, .long (lN on))]) hx hb d_MO_holds_107 hl (k := 7) rfl (f_inc1 _) (by decide) rfl (fun ls hl => ?_)
            refine lv_goto (tgt := 6) hx hb d_MO_holds_110 (by decide) ?_
            refine ih (n + 1) (by omega) ls ?_
            have e9 : hk fl fk fd fw lot kind day on (n + 1) = hk fl fk fd fw lot kind day on n := hk_no (fun q => by obtain ⟨q1, q2, q3, q4⟩ := q; omega)
            rw [e9]
            rw [e0, bI_0]
            exact lv_sub hl [3, 4, 5, 6, 7, 1, 0] rfl
          · have c_4 : (fk n) = kind := (n_eq (a := (fk n)) (b := kind) (by have := bfk n; omega) (by omega)).mp c_4
            refine lv_aload_n hx hb d_MO_holds_37 rfl (lv_at hl 0 rfl) ?_
            refine f_get (C := "DutyRulesModel") (T := T_MO) (N := 40) hx hb (fun w q => hT w (s_MO w q)) hown hK hI g_x rfl 9 (by decide) (hT _ w_818) (fun _ q => q) (mo_get (by decide) v_9) d_MO_holds_38 ?_
            refine lv_iload hx hb d_MO_holds_41 (lv_at hl 6 rfl) ?_
            refine f_laldn (k := n) (v := (lN (fd n))) hx hb hI g_a9 (fT.ofK hK (t0 := 1) rfl) (by omega) (by omega) rfl d_MO_holds_43 ?_
            refine lv_lload_n hx hb d_MO_holds_44 rfl (lv_at hl 3 rfl) ?_
            refine f_lc_gt (tgt := 66) hx hb d_MO_holds_45 d_MO_holds_46 (by decide) (fun c_6 => ?_) (fun c_6 => ?_)
            · have c_6 : day < (fd n) := (pk_lLT (a := day) (b := (fd n)) (by omega) (by have := bfd n; omega)).mp c_6
              refine lv_iconst (v := 0) hx hb d_MO_holds_66 (by decide) ?_
              refine lv_istore (lv' := [(9, .int 0), (0, .ref x), (1, .int (nI lot)), (2, .int (nI kind)), (3, .long (lN day)), (5, .long (lN on)), (7, .int (-1)), (8, .int (nI n))]) hx hb d_MO_holds_67 hl (by decide) rfl (fun ls hl => ?_)
              refine lv_iload hx hb d_MO_holds_69 (lv_at hl 0 rfl) ?_
              refine lv_if_eq (tgt := 103) hx hb d_MO_holds_71 (by decide) (fun c_7 => ?_) (fun c_7 => absurd (by decide) c_7)
              refine lv_iload hx hb d_MO_holds_103 (lv_at hl 6 rfl) ?_
              refine lv_istore (lv' := [(7, .int (-1)), (9, .int 0), (0, .ref x), (1, .int (nI lot)), (2, .int (nI kind)), (3, .long (lN day)), (5, .long (lN on)), (8, .int (nI n))]) hx hb d_MO_holds_105 hl (by decide) rfl (fun ls hl => ?_)
              refine lv_iinc (v := nI (n + 1)) (lv' := [(8, .int (nI (n + 1))), (7, .int (-1)), (9, .int 0), (0, .ref x), (1, .int (nI lot)), (2, .int (nI kind)), (3, .long (lN day)), (5, .long (lN on))]) hx hb d_MO_holds_107 hl (k := 7) rfl (f_inc1 _) (by decide) rfl (fun ls hl => ?_)
              refine lv_goto (tgt := 6) hx hb d_MO_holds_110 (by decide) ?_
              refine ih (n + 1) (by omega) ls ?_
              have e9 : hk fl fk fd fw lot kind day on (n + 1) = hk fl fk fd fw lot kind day on n := hk_no (fun q => by obtain ⟨q1, q2, q3, q4⟩ := q; omega)
              rw [e9]
              rw [e0, bI_0]
              exact lv_sub hl [3, 4, 5, 6, 7, 1, 0] rfl
            · have c_6 : ¬ day < (fd n) := fun q => c_6 ((pk_lLT (a := day) (b := (fd n)) (by omega) (by have := bfd n; omega)).mpr q)
              refine lv_aload_n hx hb d_MO_holds_49 rfl (lv_at hl 0 rfl) ?_
              refine f_get (C := "DutyRulesModel") (T := T_MO) (N := 40) hx hb (fun w q => hT w (s_MO w q)) hown hK hI g_x rfl 10 (by decide) (hT _ w_819) (fun _ q => q) (mo_get (by decide) v_10) d_MO_holds_50 ?_
              refine lv_iload hx hb d_MO_holds_53 (lv_at hl 6 rfl) ?_
              refine f_laldn (k := n) (v := (lN (fw n))) hx hb hI g_a10 (fT.ofK hK (t0 := 1) rfl) (by omega) (by omega) rfl d_MO_holds_55 ?_
              refine lv_lload hx hb d_MO_holds_56 (lv_at hl 4 rfl) ?_
              refine f_lc_gt (tgt := 66) hx hb d_MO_holds_58 d_MO_holds_59 (by decide) (fun c_8 => ?_) (fun c_8 => ?_)
              · have c_8 : on < (fw n) := (pk_lLT (a := on) (b := (fw n)) (by omega) (by have := bfw n; omega)).mp c_8
                refine lv_iconst (v := 0) hx hb d_MO_holds_66 (by decide) ?_
                refine lv_istore (lv' := [(9, .int 0), (0, .ref x), (1, .int (nI lot)), (2, .int (nI kind)), (3, .long (lN day)), (5, .long (lN on)), (7, .int (-1)), (8, .int (nI n))]) hx hb d_MO_holds_67 hl (by decide) rfl (fun ls hl => ?_)
                refine lv_iload hx hb d_MO_holds_69 (lv_at hl 0 rfl) ?_
                refine lv_if_eq (tgt := 103) hx hb d_MO_holds_71 (by decide) (fun c_9 => ?_) (fun c_9 => absurd (by decide) c_9)
                refine lv_iload hx hb d_MO_holds_103 (lv_at hl 6 rfl) ?_
                refine lv_istore (lv' := [(7, .int (-1)), (9, .int 0), (0, .ref x), (1, .int (nI lot)), (2, .int (nI kind)), (3, .long (lN day)), (5, .long (lN on)), (8, .int (nI n))]) hx hb d_MO_holds_105 hl (by decide) rfl (fun ls hl => ?_)
                refine lv_iinc (v := nI (n + 1)) (lv' := [(8, .int (nI (n + 1))), (7, .int (-1)), (9, .int 0), (0, .ref x), (1, .int (nI lot)), (2, .int (nI kind)), (3, .long (lN day)), (5, .long (lN on))]) hx hb d_MO_holds_107 hl (k := 7) rfl (f_inc1 _) (by decide) rfl (fun ls hl => ?_)
                refine lv_goto (tgt := 6) hx hb d_MO_holds_110 (by decide) ?_
                refine ih (n + 1) (by omega) ls ?_
                have e9 : hk fl fk fd fw lot kind day on (n + 1) = hk fl fk fd fw lot kind day on n := hk_no (fun q => by obtain ⟨q1, q2, q3, q4⟩ := q; omega)
                rw [e9]
                rw [e0, bI_0]
                exact lv_sub hl [3, 4, 5, 6, 7, 1, 0] rfl
              · have c_8 : ¬ on < (fw n) := fun q => c_8 ((pk_lLT (a := on) (b := (fw n)) (by omega) (by have := bfw n; omega)).mpr q)
                refine lv_iconst (v := 1) hx hb d_MO_holds_62 (by decide) ?_
                refine lv_goto (tgt := 67) hx hb d_MO_holds_63 (by decide) ?_
                refine lv_istore (lv' := [(9, .int 1), (0, .ref x), (1, .int (nI lot)), (2, .int (nI kind)), (3, .long (lN day)), (5, .long (lN on)), (7, .int (-1)), (8, .int (nI n))]) hx hb d_MO_holds_67 hl (by decide) rfl (fun ls hl => ?_)
                refine lv_iload hx hb d_MO_holds_69 (lv_at hl 0 rfl) ?_
                refine lv_if_eq (tgt := 103) hx hb d_MO_holds_71 (by decide) (fun c_10 => absurd c_10 (by decide)) (fun c_10 => ?_)
                refine lv_iload hx hb d_MO_holds_74 (lv_at hl 6 rfl) ?_
                refine lv_iconst (v := (-1)) hx hb d_MO_holds_76 (by decide) ?_
                refine lv_icmp_eq (tgt := 98) hx hb d_MO_holds_77 (by decide) (fun c_11 => ?_) (fun c_11 => absurd rfl c_11)
                refine lv_iload hx hb d_MO_holds_98 (lv_at hl 7 rfl) ?_
                refine lv_goto (tgt := 105) hx hb d_MO_holds_100 (by decide) ?_
                refine lv_istore (lv' := [(7, .int (nI n)), (9, .int 1), (0, .ref x), (1, .int (nI lot)), (2, .int (nI kind)), (3, .long (lN day)), (5, .long (lN on)), (8, .int (nI n))]) hx hb d_MO_holds_105 hl (by decide) rfl (fun ls hl => ?_)
                refine lv_iinc (v := nI (n + 1)) (lv' := [(8, .int (nI (n + 1))), (7, .int (nI n)), (9, .int 1), (0, .ref x), (1, .int (nI lot)), (2, .int (nI kind)), (3, .long (lN day)), (5, .long (lN on))]) hx hb d_MO_holds_107 hl (k := 7) rfl (f_inc1 _) (by decide) rfl (fun ls hl => ?_)
                refine lv_goto (tgt := 6) hx hb d_MO_holds_110 (by decide) ?_
                refine ih (n + 1) (by omega) ls ?_
                have e9 : hk fl fk fd fw lot kind day on (n + 1) = max (hk fl fk fd fw lot kind day on n) (kK fd n) := hk_yes ⟨c_2, c_4, by omega, by omega⟩
                rw [e9]
                rw [e0, Nat.max_eq_right (Nat.zero_le _), bI_k (by omega)]
                exact lv_sub hl [3, 4, 5, 6, 7, 1, 0] rfl
      · rw [ei, bI_k (by omega)] at hl
        refine lv_iload hx hb d_MO_holds_6 (lv_at hl 6 rfl) ?_
        refine lv_aload_n hx hb d_MO_holds_8 rfl (lv_at hl 0 rfl) ?_
        refine f_get (C := "DutyRulesModel") (T := T_MO) (N := 40) hx hb (fun w q => hT w (s_MO w q)) hown hK hI g_x rfl 12 (by decide) (hT _ w_821) (fun _ q => q) (mo_get (by decide) v_12) d_MO_holds_9 ?_
        refine lv_icmp_ge (tgt := 113) hx hb d_MO_holds_12 (by decide) (fun c_1 => absurd c_1 (fun q => absurd ((n_le (by omega) (by omega)).mp q) (by omega))) (fun c_1 => ?_)
        refine lv_aload_n hx hb d_MO_holds_15 rfl (lv_at hl 0 rfl) ?_
        refine f_get (C := "DutyRulesModel") (T := T_MO) (N := 40) hx hb (fun w q => hT w (s_MO w q)) hown hK hI g_x rfl 7 (by decide) (hT _ w_816) (fun _ q => q) (mo_get (by decide) v_7) d_MO_holds_16 ?_
        refine lv_iload hx hb d_MO_holds_19 (lv_at hl 6 rfl) ?_
        refine f_ialdn (k := n) (v := (nI (fl n))) hx hb hI g_a7 (fT.ofK hK (t0 := 0) rfl) (by omega) (by omega) rfl d_MO_holds_21 ?_
        refine lv_iload_n hx hb d_MO_holds_22 rfl (lv_at hl 1 rfl) ?_
        refine lv_icmp_ne (tgt := 66) hx hb d_MO_holds_23 (by decide) (fun c_2 => ?_) (fun c_2 => ?_)
        · have c_2 : ¬ (fl n) = lot := fun q => c_2 ((n_eq (a := (fl n)) (b := lot) (by have := bfl n; omega) (by omega)).mpr q)
          refine lv_iconst (v := 0) hx hb d_MO_holds_66 (by decide) ?_
          refine lv_istore (lv' := [(9, .int 0), (0, .ref x), (1, .int (nI lot)), (2, .int (nI kind)), (3, .long (lN day)), (5, .long (lN on)), (7, .int (nI i)), (8, .int (nI n))]) hx hb d_MO_holds_67 hl (by decide) rfl (fun ls hl => ?_)
          refine lv_iload hx hb d_MO_holds_69 (lv_at hl 0 rfl) ?_
          refine lv_if_eq (tgt := 103) hx hb d_MO_holds_71 (by decide) (fun c_3 => ?_) (fun c_3 => absurd (by decide) c_3)
          refine lv_iload hx hb d_MO_holds_103 (lv_at hl 6 rfl) ?_
          refine lv_istore (lv' := [(7, .int (nI i)), (9, .int 0), (0, .ref x), (1, .int (nI lot)), (2, .int (nI kind)), (3, .long (lN day)), (5, .long (lN on)), (8, .int (nI n))]) hx hb d_MO_holds_105 hl (by decide) rfl (fun ls hl => ?_)
          refine lv_iinc (v := nI (n + 1)) (lv' := [(8, .int (nI (n + 1))), (7, .int (nI i)), (9, .int 0), (0, .ref x), (1, .int (nI lot)), (2, .int (nI kind)), (3, .long (lN day)), (5, .long (lN on))]) hx hb d_MO_holds_107 hl (k := 7) rfl (f_inc1 _) (by decide) rfl (fun ls hl => ?_)
          refine lv_goto (tgt := 6) hx hb d_MO_holds_110 (by decide) ?_
          refine ih (n + 1) (by omega) ls ?_
          have e9 : hk fl fk fd fw lot kind day on (n + 1) = hk fl fk fd fw lot kind day on n := hk_no (fun q => by obtain ⟨q1, q2, q3, q4⟩ := q; omega)
          rw [e9]
          rw [ei, bI_k (by omega)]
          exact lv_sub hl [3, 4, 5, 6, 7, 1, 0] rfl
        · have c_2 : (fl n) = lot := (n_eq (a := (fl n)) (b := lot) (by have := bfl n; omega) (by omega)).mp c_2
          refine lv_aload_n hx hb d_MO_holds_26 rfl (lv_at hl 0 rfl) ?_
          refine f_get (C := "DutyRulesModel") (T := T_MO) (N := 40) hx hb (fun w q => hT w (s_MO w q)) hown hK hI g_x rfl 8 (by decide) (hT _ w_817) (fun _ q => q) (mo_get (by decide) v_8) d_MO_holds_27 ?_
          refine lv_iload hx hb d_MO_holds_30 (lv_at hl 6 rfl) ?_
          refine f_ialdn (k := n) (v := (nI (fk n))) hx hb hI g_a8 (fT.ofK hK (t0 := 0) rfl) (by omega) (by omega) rfl d_MO_holds_32 ?_
          refine lv_iload_n hx hb d_MO_holds_33 rfl (lv_at hl 2 rfl) ?_
          refine lv_icmp_ne (tgt := 66) hx hb d_MO_holds_34 (by decide) (fun c_4 => ?_) (fun c_4 => ?_)
          · have c_4 : ¬ (fk n) = kind := fun q => c_4 ((n_eq (a := (fk n)) (b := kind) (by have := bfk n; omega) (by omega)).mpr q)
            refine lv_iconst (v := 0) hx hb d_MO_holds_66 (by decide) ?_
            refine lv_istore (lv' := [(9, .int 0), (0, .ref x), (1, .int (nI lot)), (2, .int (nI kind)), (3, .long (lN day)), (5, .long (lN on)), (7, .int (nI i)), (8, .int (nI n))]) hx hb d_MO_holds_67 hl (by decide) rfl (fun ls hl => ?_)
            refine lv_iload hx hb d_MO_holds_69 (lv_at hl 0 rfl) ?_
            refine lv_if_eq (tgt := 103) hx hb d_MO_holds_71 (by decide) (fun c_5 => ?_) (fun c_5 => absurd (by decide) c_5)
            refine lv_iload hx hb d_MO_holds_103 (lv_at hl 6 rfl) ?_
            refine lv_istore (lv' := [(7, .int (nI i)), (9, .int 0), (0, .ref x), (1, .int (nI lot)), (2, .int (nI kind)), (3, .long (lN day)), (5, .long (lN on)), (8, .int (nI n))]) hx hb d_MO_holds_105 hl (by decide) rfl (fun ls hl => ?_)
            refine lv_iinc (v := nI (n + 1)) (lv' := [(8, .int (nI (n + 1))), (7, .int (nI i)), (9, .int 0), (0, .ref x), (1, .int (nI lot)), (2, .int (nI kind)), (3, .long (lN day)), (5, .long (lN on))]) hx hb d_MO_holds_107 hl (k := 7) rfl (f_inc1 _) (by decide) rfl (fun ls hl => ?_)
            refine lv_goto (tgt := 6) hx hb d_MO_holds_110 (by decide) ?_
            refine ih (n + 1) (by omega) ls ?_
            have e9 : hk fl fk fd fw lot kind day on (n + 1) = hk fl fk fd fw lot kind day on n := hk_no (fun q => by obtain ⟨q1, q2, q3, q4⟩ := q; omega)
            rw [e9]
            rw [ei, bI_k (by omega)]
            exact lv_sub hl [3, 4, 5, 6, 7, 1, 0] rfl
          · have c_4 : (fk n) = kind := (n_eq (a := (fk n)) (b := kind) (by have := bfk n; omega) (by omega)).mp c_4
            refine lv_aload_n hx hb d_MO_holds_37 rfl (lv_at hl 0 rfl) ?_
            refine f_get (C := "DutyRulesModel") (T := T_MO) (N := 40) hx hb (fun w q => hT w (s_MO w q)) hown hK hI g_x rfl 9 (by decide) (hT _ w_818) (fun _ q => q) (mo_get (by decide) v_9) d_MO_holds_38 ?_
            refine lv_iload hx hb d_MO_holds_41 (lv_at hl 6 rfl) ?_
            refine f_laldn (k := n) (v := (lN (fd n))) hx hb hI g_a9 (fT.ofK hK (t0 := 1) rfl) (by omega) (by omega) rfl d_MO_holds_43 ?_
            refine lv_lload_n hx hb d_MO_holds_44 rfl (lv_at hl 3 rfl) ?_
            refine f_lc_gt (tgt := 66) hx hb d_MO_holds_45 d_MO_holds_46 (by decide) (fun c_6 => ?_) (fun c_6 => ?_)
            · have c_6 : day < (fd n) := (pk_lLT (a := day) (b := (fd n)) (by omega) (by have := bfd n; omega)).mp c_6
              refine lv_iconst (v := 0) hx hb d_MO_holds_66 (by decide) ?_
              refine lv_istore (lv' := [(9, .int 0), (0, .ref x), (1, .int (nI lot)), (2, .int (nI kind)), (3, .long (lN day)), (5, .long (lN on)), (7, .int (nI i)), (8, .int (nI n))]) hx hb d_MO_holds_67 hl (by decide) rfl (fun ls hl => ?_)
              refine lv_iload hx hb d_MO_holds_69 (lv_at hl 0 rfl) ?_
              refine lv_if_eq (tgt := 103) hx hb d_MO_holds_71 (by decide) (fun c_7 => ?_) (fun c_7 => absurd (by decide) c_7)
              refine lv_iload hx hb d_MO_holds_103 (lv_at hl 6 rfl) ?_
              refine lv_istore (lv' := [(7, .int (nI i)), (9, .int 0), (0, .ref x), (1, .int (nI lot)), (2, .int (nI kind)), (3, .long (lN day)), (5, .long (lN on)), (8, .int (nI n))]) hx hb d_MO_holds_105 hl (by decide) rfl (fun ls hl => ?_)
              refine lv_iinc (v := nI (n + 1)) (lv' := [(8, .int (nI (n + 1))), (7, .int (nI i)), (9, .int 0), (0, .ref x), (1, .int (nI lot)), (2, .int (nI kind)), (3, .long (lN day)), (5, .long (lN on))]) hx hb d_MO_holds_107 hl (k := 7) rfl (f_inc1 _) (by decide) rfl (fun ls hl => ?_)
              refine lv_goto (tgt := 6) hx hb d_MO_holds_110 (by decide) ?_
              refine ih (n + 1) (by omega) ls ?_
              have e9 : hk fl fk fd fw lot kind day on (n + 1) = hk fl fk fd fw lot kind day on n := hk_no (fun q => by obtain ⟨q1, q2, q3, q4⟩ := q; omega)
              rw [e9]
              rw [ei, bI_k (by omega)]
              exact lv_sub hl [3, 4, 5, 6, 7, 1, 0] rfl
            · have c_6 : ¬ day < (fd n) := fun q => c_6 ((pk_lLT (a := day) (b := (fd n)) (by omega) (by have := bfd n; omega)).mpr q)
              refine lv_aload_n hx hb d_MO_holds_49 rfl (lv_at hl 0 rfl) ?_
              refine f_get (C := "DutyRulesModel") (T := T_MO) (N := 40) hx hb (fun w q => hT w (s_MO w q)) hown hK hI g_x rfl 10 (by decide) (hT _ w_819) (fun _ q => q) (mo_get (by decide) v_10) d_MO_holds_50 ?_
              refine lv_iload hx hb d_MO_holds_53 (lv_at hl 6 rfl) ?_
              refine f_laldn (k := n) (v := (lN (fw n))) hx hb hI g_a10 (fT.ofK hK (t0 := 1) rfl) (by omega) (by omega) rfl d_MO_holds_55 ?_
              refine lv_lload hx hb d_MO_holds_56 (lv_at hl 4 rfl) ?_
              refine f_lc_gt (tgt := 66) hx hb d_MO_holds_58 d_MO_holds_59 (by decide) (fun c_8 => ?_) (fun c_8 => ?_)
              · have c_8 : on < (fw n) := (pk_lLT (a := on) (b := (fw n)) (by omega) (by have := bfw n; omega)).mp c_8
                refine lv_iconst (v := 0) hx hb d_MO_holds_66 (by decide) ?_
                refine lv_istore (lv' := [(9, .int 0), (0, .ref x), (1, .int (nI lot)), (2, .int (nI kind)), (3, .long (lN day)), (5, .long (lN on)), (7, .int (nI i)), (8, .int (nI n))]) hx hb d_MO_holds_67 hl (by decide) rfl (fun ls hl => ?_)
                refine lv_iload hx hb d_MO_holds_69 (lv_at hl 0 rfl) ?_
                refine lv_if_eq (tgt := 103) hx hb d_MO_holds_71 (by decide) (fun c_9 => ?_) (fun c_9 => absurd (by decide) c_9)
                refine lv_iload hx hb d_MO_holds_103 (lv_at hl 6 rfl) ?_
                refine lv_istore (lv' := [(7, .int (nI i)), (9, .int 0), (0, .ref x), (1, .int (nI lot)), (2, .int (nI kind)), (3, .long (lN day)), (5, .long (lN on)), (8, .int (nI n))]) hx hb d_MO_holds_105 hl (by decide) rfl (fun ls hl => ?_)
                refine lv_iinc (v := nI (n + 1)) (lv' := [(8, .int (nI (n + 1))), (7, .int (nI i)), (9, .int 0), (0, .ref x), (1, .int (nI lot)), (2, .int (nI kind)), (3, .long (lN day)), (5, .long (lN on))]) hx hb d_MO_holds_107 hl (k := 7) rfl (f_inc1 _) (by decide) rfl (fun ls hl => ?_)
                refine lv_goto (tgt := 6) hx hb d_MO_holds_110 (by decide) ?_
                refine ih (n + 1) (by omega) ls ?_
                have e9 : hk fl fk fd fw lot kind day on (n + 1) = hk fl fk fd fw lot kind day on n := hk_no (fun q => by obtain ⟨q1, q2, q3, q4⟩ := q; omega)
                rw [e9]
                rw [ei, bI_k (by omega)]
                exact lv_sub hl [3, 4, 5, 6, 7, 1, 0] rfl
              · have c_8 : ¬ on < (fw n) := fun q => c_8 ((pk_lLT (a := on) (b := (fw n)) (by omega) (by have := bfw n; omega)).mpr q)
                refine lv_iconst (v := 1) hx hb d_MO_holds_62 (by decide) ?_
                refine lv_goto (tgt := 67) hx hb d_MO_holds_63 (by decide) ?_
                refine lv_istore (lv' := [(9, .int 1), (0, .ref x), (1, .int (nI lot)), (2, .int (nI kind)), (3, .long (lN day)), (5, .long (lN on)), (7, .int (nI i)), (8, .int (nI n))]) hx hb d_MO_holds_67 hl (by decide) rfl (fun ls hl => ?_)
                refine lv_iload hx hb d_MO_holds_69 (lv_at hl 0 rfl) ?_
                refine lv_if_eq (tgt := 103) hx hb d_MO_holds_71 (by decide) (fun c_10 => absurd c_10 (by decide)) (fun c_10 => ?_)
                refine lv_iload hx hb d_MO_holds_74 (lv_at hl 6 rfl) ?_
                refine lv_iconst (v := (-1)) hx hb d_MO_holds_76 (by decide) ?_
                refine lv_icmp_eq (tgt := 98) hx hb d_MO_holds_77 (by decide) (fun c_11 => absurd c_11 (n_m1 (by omega))) (fun c_11 => ?_)
                refine lv_aload_n hx hb d_MO_holds_80 rfl (lv_at hl 1 rfl) ?_
                refine f_get (C := "DutyRulesModel") (T := T_MO) (N := 40) hx hb (fun w q => hT w (s_MO w q)) hown hK hI g_x rfl 9 (by decide) (hT _ w_818) (fun _ q => q) (mo_get (by decide) v_9) d_MO_holds_81 ?_
                refine lv_iload hx hb d_MO_holds_84 (lv_at hl 7 rfl) ?_
                refine f_laldn (k := n) (v := (lN (fd n))) hx hb hI g_a9 (fT.ofK hK (t0 := 1) rfl) (by omega) (by omega) rfl d_MO_holds_86 ?_
                refine lv_aload_n hx hb d_MO_holds_87 rfl (lv_at hl 1 rfl) ?_
                refine f_get (C := "DutyRulesModel") (T := T_MO) (N := 40) hx hb (fun w q => hT w (s_MO w q)) hown hK hI g_x rfl 9 (by decide) (hT _ w_818) (fun _ q => q) (mo_get (by decide) v_9) d_MO_holds_88 ?_
                refine lv_iload hx hb d_MO_holds_91 (lv_at hl 6 rfl) ?_
                refine f_laldn (k := i) (v := (lN (fd i))) hx hb hI g_a9 (fT.ofK hK (t0 := 1) rfl) (by omega) (by omega) rfl d_MO_holds_93 ?_
                refine f_lc_lt (tgt := 103) hx hb d_MO_holds_94 d_MO_holds_95 (by decide) (fun c_12 => ?_) (fun c_12 => ?_)
                · have c_12 : (fd n) < (fd i) := (pk_lLT (a := (fd n)) (b := (fd i)) (by have := bfd n; omega) (by have := bfd i; omega)).mp c_12
                  refine lv_iload hx hb d_MO_holds_103 (lv_at hl 6 rfl) ?_
                  refine lv_istore (lv' := [(7, .int (nI i)), (9, .int 1), (0, .ref x), (1, .int (nI lot)), (2, .int (nI kind)), (3, .long (lN day)), (5, .long (lN on)), (8, .int (nI n))]) hx hb d_MO_holds_105 hl (by decide) rfl (fun ls hl => ?_)
                  refine lv_iinc (v := nI (n + 1)) (lv' := [(8, .int (nI (n + 1))), (7, .int (nI i)), (9, .int 1), (0, .ref x), (1, .int (nI lot)), (2, .int (nI kind)), (3, .long (lN day)), (5, .long (lN on))]) hx hb d_MO_holds_107 hl (k := 7) rfl (f_inc1 _) (by decide) rfl (fun ls hl => ?_)
                  refine lv_goto (tgt := 6) hx hb d_MO_holds_110 (by decide) ?_
                  refine ih (n + 1) (by omega) ls ?_
                  have e9 : hk fl fk fd fw lot kind day on (n + 1) = max (hk fl fk fd fw lot kind day on n) (kK fd n) := hk_yes ⟨c_2, c_4, by omega, by omega⟩
                  rw [e9]
                  rw [ei, Nat.max_eq_left (Nat.le_of_lt (kK_gt (by omega) (by omega))), bI_k (by omega)]
                  exact lv_sub hl [3, 4, 5, 6, 7, 1, 0] rfl
                · have c_12 : ¬ (fd n) < (fd i) := fun q => c_12 ((pk_lLT (a := (fd n)) (b := (fd i)) (by have := bfd n; omega) (by have := bfd i; omega)).mpr q)
                  refine lv_iload hx hb d_MO_holds_98 (lv_at hl 7 rfl) ?_
                  refine lv_goto (tgt := 105) hx hb d_MO_holds_100 (by decide) ?_
                  refine lv_istore (lv' := [(7, .int (nI n)), (9, .int 1), (0, .ref x), (1, .int (nI lot)), (2, .int (nI kind)), (3, .long (lN day)), (5, .long (lN on)), (8, .int (nI n))]) hx hb d_MO_holds_105 hl (by decide) rfl (fun ls hl => ?_)
                  refine lv_iinc (v := nI (n + 1)) (lv' := [(8, .int (nI (n + 1))), (7, .int (nI n)), (9, .int 1), (0, .ref x), (1, .int (nI lot)), (2, .int (nI kind)), (3, .long (lN day)), (5, .long (lN on))]) hx hb d_MO_holds_107 hl (k := 7) rfl (f_inc1 _) (by decide) rfl (fun ls hl => ?_)
                  refine lv_goto (tgt := 6) hx hb d_MO_holds_110 (by decide) ?_
                  refine ih (n + 1) (by omega) ls ?_
                  have e9 : hk fl fk fd fw lot kind day on (n + 1) = max (hk fl fk fd fw lot kind day on n) (kK fd n) := hk_yes ⟨c_2, c_4, by omega, by omega⟩
                  rw [e9]
                  rw [ei, Nat.max_eq_right (Nat.le_of_lt (kK_lt hi1 (by omega) (by omega))), bI_k (by omega)]
                  exact lv_sub hl [3, 4, 5, 6, 7, 1, 0] rfl
  refine lv_iconst (v := (-1)) hx hb d_MO_holds_0 (by decide) ?_
  refine lv_istore (lv' := [(7, .int (-1)), (0, .ref x), (1, .int (nI lot)), (2, .int (nI kind)), (3, .long (lN day)), (5, .long (lN on))]) hx hb d_MO_holds_1 hl (by decide) rfl (fun ls hl => ?_)
  refine lv_iconst (v := 0) hx hb d_MO_holds_3 (by decide) ?_
  refine lv_istore (lv' := [(8, .int 0), (7, .int (-1)), (0, .ref x), (1, .int (nI lot)), (2, .int (nI kind)), (3, .long (lN day)), (5, .long (lN on))]) hx hb d_MO_holds_4 hl (by decide) rfl (fun ls hl => ?_)
  refine LOOP nf 0 (by omega) ls ?_
  exact lv_sub hl [2, 3, 4, 5, 6, 1, 0] rfl
