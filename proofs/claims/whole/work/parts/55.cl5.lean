theorem gm_DU_reasonToBeOpen : gM y_DU_reasonToBeOpen b_DU_reasonToBeOpen 3 (some .int) 1 := ⟨w_637, w_8, ⟨by decide, by decide⟩, by decide +kernel⟩
set_option maxHeartbeats 4000000 in
set_option maxRecDepth 100000 in
/-- DU_reasonToBeOpen  -/
theorem c_DU_reasonToBeOpen (l : Launch) (G : gG) (h : fH) (sz : Nat) (X ow : Nat) (lt rs : Int32) (hv : Nat → Int32) (d : dst) (hD : cDu G h X ow lt rs hv d) (K : Nat → Option Nat) (hK6 : ∀ k, k < 6 → hv k = oN (K k)) (R ed : Nat) (rr rm : Nat → Nat) (hc : cR G h R rr rm ed) (hok : okE rr rm ed) (bK : ∀ k v, K k = some v → v ≤ 100000000) : cM l y_DU_reasonToBeOpen b_DU_reasonToBeOpen 3 (some .int) { frames := 2, cells := 0, slots := 0, locals := 45 } G [.ref X, .ref R] h sz (cQi G h sz (fun z h' => z = (rkE K (mF rr rm ed) (mV rr ed)).1 ∧ h' = h)) := by
  refine f_start (by decide) (Nat.le_of_ble_eq_true rfl) ?_
  intro p e s m below meth c ls C hr hsz hI hl
  obtain ⟨hx, hb, hml, hown, hnm, hlk, hT, hG, hZ⟩ := id C
  have hK := hG.1
  have hX : fX h sz h := fX.rf
  have hl : lv_has ls 3 [(0, .ref X), (1, .ref R)] := hl
  obtain ⟨a1, a2, a3, a4, sl, sr, sc, g_X, g_a1, g_a2, g_a3, g_a4, bdl, hq⟩ := id hD
  obtain ⟨L, fr, ce⟩ := d
  dsimp only at g_X hq bdl
  have hF : fF (inD ow) h h := fF.rf
  obtain ⟨kf0, nf0, ⟨b1, b2, g_R, _⟩, _⟩ := id hc
  rcases e0 : K 0 with _ | g
  · skip
    refine lv_iconst (v := 0) hx hb d_DU_reasonToBeOpen_0 (by decide) ?_
    refine lv_istore_n (lv' := [(2, .int 0), (0, .ref X), (1, .ref R)]) hx hb d_DU_reasonToBeOpen_1 rfl hl (by decide) rfl (fun ls hl => ?_)
    refine lv_iload_n hx hb d_DU_reasonToBeOpen_2 rfl (lv_at hl 0 rfl) ?_
    refine lv_iconst (v := 2) hx hb d_DU_reasonToBeOpen_3 (by decide) ?_
    refine lv_icmp_gt (tgt := 25) hx hb d_DU_reasonToBeOpen_4 (by decide) (fun c_1 => absurd c_1 (by decide)) (fun c_1 => ?_)
    refine lv_aload_n hx hb d_DU_reasonToBeOpen_7 rfl (lv_at hl 1 rfl) ?_
    refine f_get (C := "DutyRules$Duty") (T := T_DU) (N := 9) hx hb (fun w q => hT w (s_DU w q)) hown hK hI g_X rfl 5 (by decide) (hT _ w_117) (fun _ q => q) rfl d_DU_reasonToBeOpen_8 ?_
    refine lv_iload_n hx hb d_DU_reasonToBeOpen_11 rfl (lv_at hl 0 rfl) ?_
    refine f_ialdn (k := 0) (v := (-1)) hx hb hI g_a1 (fT.ofK hK (t0 := 0) rfl) (by omega) (by omega) ((hK6 0 (by decide)).trans (by rw [e0]; rfl)) d_DU_reasonToBeOpen_12 ?_
    refine lv_iconst (v := (-1)) hx hb d_DU_reasonToBeOpen_13 (by decide) ?_
    refine lv_icmp_ne (tgt := 19) hx hb d_DU_reasonToBeOpen_14 (by decide) (fun c_2 => absurd rfl c_2) (fun c_2 => ?_)
    refine lv_iload_n hx hb d_DU_reasonToBeOpen_17 rfl (lv_at hl 0 rfl) ?_
    exact f_iret C hr hI ⟨by unfold rkE; simp only [e0]; try rfl, rfl⟩ hX (Nat.le_refl _) (Nat.le_refl _) d_DU_reasonToBeOpen_18
  · have bg := bK 0 g e0
    rcases e1 : K 1 with _ | st9
    · skip
      refine lv_iconst (v := 0) hx hb d_DU_reasonToBeOpen_0 (by decide) ?_
      refine lv_istore_n (lv' := [(2, .int 0), (0, .ref X), (1, .ref R)]) hx hb d_DU_reasonToBeOpen_1 rfl hl (by decide) rfl (fun ls hl => ?_)
      refine lv_iload_n hx hb d_DU_reasonToBeOpen_2 rfl (lv_at hl 0 rfl) ?_
      refine lv_iconst (v := 2) hx hb d_DU_reasonToBeOpen_3 (by decide) ?_
      refine lv_icmp_gt (tgt := 25) hx hb d_DU_reasonToBeOpen_4 (by decide) (fun c_3 => absurd c_3 (by decide)) (fun c_3 => ?_)
      refine lv_aload_n hx hb d_DU_reasonToBeOpen_7 rfl (lv_at hl 1 rfl) ?_
      refine f_get (C := "DutyRules$Duty") (T := T_DU) (N := 9) hx hb (fun w q => hT w (s_DU w q)) hown hK hI g_X rfl 5 (by decide) (hT _ w_117) (fun _ q => q) rfl d_DU_reasonToBeOpen_8 ?_
      refine lv_iload_n hx hb d_DU_reasonToBeOpen_11 rfl (lv_at hl 0 rfl) ?_
      refine f_ialdn (k := 0) (v := (nI g)) hx hb hI g_a1 (fT.ofK hK (t0 := 0) rfl) (by omega) (by omega) ((hK6 0 (by decide)).trans (by rw [e0]; rfl)) d_DU_reasonToBeOpen_12 ?_
      refine lv_iconst (v := (-1)) hx hb d_DU_reasonToBeOpen_13 (by decide) ?_
      refine lv_icmp_ne (tgt := 19) hx hb d_DU_reasonToBeOpen_14 (by decide) (fun c_4 => ?_) (fun c_4 => absurd c_4 (n_m1 (by omega)))
      refine lv_iinc (v := 1) (lv' := [(2, .int 1), (0, .ref X), (1, .ref R)]) hx hb d_DU_reasonToBeOpen_19 hl (k := 0) rfl (by decide) (by decide) rfl (fun ls hl => ?_)
      refine lv_goto (tgt := 2) hx hb d_DU_reasonToBeOpen_22 (by decide) ?_
      refine lv_iload_n hx hb d_DU_reasonToBeOpen_2 rfl (lv_at hl 0 rfl) ?_
      refine lv_iconst (v := 2) hx hb d_DU_reasonToBeOpen_3 (by decide) ?_
      refine lv_icmp_gt (tgt := 25) hx hb d_DU_reasonToBeOpen_4 (by decide) (fun c_5 => absurd c_5 (by decide)) (fun c_5 => ?_)
      refine lv_aload_n hx hb d_DU_reasonToBeOpen_7 rfl (lv_at hl 1 rfl) ?_
      refine f_get (C := "DutyRules$Duty") (T := T_DU) (N := 9) hx hb (fun w q => hT w (s_DU w q)) hown hK hI g_X rfl 5 (by decide) (hT _ w_117) (fun _ q => q) rfl d_DU_reasonToBeOpen_8 ?_
      refine lv_iload_n hx hb d_DU_reasonToBeOpen_11 rfl (lv_at hl 0 rfl) ?_
      refine f_ialdn (k := 1) (v := (-1)) hx hb hI g_a1 (fT.ofK hK (t0 := 0) rfl) (by omega) (by omega) ((hK6 1 (by decide)).trans (by rw [e1]; rfl)) d_DU_reasonToBeOpen_12 ?_
      refine lv_iconst (v := (-1)) hx hb d_DU_reasonToBeOpen_13 (by decide) ?_
      refine lv_icmp_ne (tgt := 19) hx hb d_DU_reasonToBeOpen_14 (by decide) (fun c_6 => absurd rfl c_6) (fun c_6 => ?_)
      refine lv_iload_n hx hb d_DU_reasonToBeOpen_17 rfl (lv_at hl 0 rfl) ?_
      exact f_iret C hr hI ⟨by unfold rkE; simp only [e0, e1]; try rfl, rfl⟩ hX (Nat.le_refl _) (Nat.le_refl _) d_DU_reasonToBeOpen_18
    · have bst := bK 1 st9 e1
      rcases e2 : K 2 with _ | li
      · skip
        refine lv_iconst (v := 0) hx hb d_DU_reasonToBeOpen_0 (by decide) ?_
        refine lv_istore_n (lv' := [(2, .int 0), (0, .ref X), (1, .ref R)]) hx hb d_DU_reasonToBeOpen_1 rfl hl (by decide) rfl (fun ls hl => ?_)
        refine lv_iload_n hx hb d_DU_reasonToBeOpen_2 rfl (lv_at hl 0 rfl) ?_
        refine lv_iconst (v := 2) hx hb d_DU_reasonToBeOpen_3 (by decide) ?_
        refine lv_icmp_gt (tgt := 25) hx hb d_DU_reasonToBeOpen_4 (by decide) (fun c_7 => absurd c_7 (by decide)) (fun c_7 => ?_)
        refine lv_aload_n hx hb d_DU_reasonToBeOpen_7 rfl (lv_at hl 1 rfl) ?_
        refine f_get (C := "DutyRules$Duty") (T := T_DU) (N := 9) hx hb (fun w q => hT w (s_DU w q)) hown hK hI g_X rfl 5 (by decide) (hT _ w_117) (fun _ q => q) rfl d_DU_reasonToBeOpen_8 ?_
        refine lv_iload_n hx hb d_DU_reasonToBeOpen_11 rfl (lv_at hl 0 rfl) ?_
        refine f_ialdn (k := 0) (v := (nI g)) hx hb hI g_a1 (fT.ofK hK (t0 := 0) rfl) (by omega) (by omega) ((hK6 0 (by decide)).trans (by rw [e0]; rfl)) d_DU_reasonToBeOpen_12 ?_
        refine lv_iconst (v := (-1)) hx hb d_DU_reasonToBeOpen_13 (by decide) ?_
        refine lv_icmp_ne (tgt := 19) hx hb d_DU_reasonToBeOpen_14 (by decide) (fun c_8 => ?_) (fun c_8 => absurd c_8 (n_m1 (by omega)))
        refine lv_iinc (v := 1) (lv' := [(2, .int 1), (0, .ref X), (1, .ref R)]) hx hb d_DU_reasonToBeOpen_19 hl (k := 0) rfl (by decide) (by decide) rfl (fun ls hl => ?_)
        refine lv_goto (tgt := 2) hx hb d_DU_reasonToBeOpen_22 (by decide) ?_
        refine lv_iload_n hx hb d_DU_reasonToBeOpen_2 rfl (lv_at hl 0 rfl) ?_
        refine lv_iconst (v := 2) hx hb d_DU_reasonToBeOpen_3 (by decide) ?_
        refine lv_icmp_gt (tgt := 25) hx hb d_DU_reasonToBeOpen_4 (by decide) (fun c_9 => absurd c_9 (by decide)) (fun c_9 => ?_)
        refine lv_aload_n hx hb d_DU_reasonToBeOpen_7 rfl (lv_at hl 1 rfl) ?_
        refine f_get (C := "DutyRules$Duty") (T := T_DU) (N := 9) hx hb (fun w q => hT w (s_DU w q)) hown hK hI g_X rfl 5 (by decide) (hT _ w_117) (fun _ q => q) rfl d_DU_reasonToBeOpen_8 ?_
        refine lv_iload_n hx hb d_DU_reasonToBeOpen_11 rfl (lv_at hl 0 rfl) ?_
        refine f_ialdn (k := 1) (v := (nI st9)) hx hb hI g_a1 (fT.ofK hK (t0 := 0) rfl) (by omega) (by omega) ((hK6 1 (by decide)).trans (by rw [e1]; rfl)) d_DU_reasonToBeOpen_12 ?_
        refine lv_iconst (v := (-1)) hx hb d_DU_reasonToBeOpen_13 (by decide) ?_
        refine lv_icmp_ne (tgt := 19) hx hb d_DU_reasonToBeOpen_14 (by decide) (fun c_10 => ?_) (fun c_10 => absurd c_10 (n_m1 (by omega)))
        refine lv_iinc (v := 2) (lv' := [(2, .int 2), (0, .ref X), (1, .ref R)]) hx hb d_DU_reasonToBeOpen_19 hl (k := 0) rfl (by decide) (by decide) rfl (fun ls hl => ?_)
        refine lv_goto (tgt := 2) hx hb d_DU_reasonToBeOpen_22 (by decide) ?_
        refine lv_iload_n hx hb d_DU_reasonToBeOpen_2 rfl (lv_at hl 0 rfl) ?_
        refine lv_iconst (v := 2) hx hb d_DU_reasonToBeOpen_3 (by decide) ?_
        refine lv_icmp_gt (tgt := 25) hx hb d_DU_reasonToBeOpen_4 (by decide) (fun c_11 => absurd c_11 (by decide)) (fun c_11 => ?_)
        refine lv_aload_n hx hb d_DU_reasonToBeOpen_7 rfl (lv_at hl 1 rfl) ?_
        refine f_get (C := "DutyRules$Duty") (T := T_DU) (N := 9) hx hb (fun w q => hT w (s_DU w q)) hown hK hI g_X rfl 5 (by decide) (hT _ w_117) (fun _ q => q) rfl d_DU_reasonToBeOpen_8 ?_
        refine lv_iload_n hx hb d_DU_reasonToBeOpen_11 rfl (lv_at hl 0 rfl) ?_
        refine f_ialdn (k := 2) (v := (-1)) hx hb hI g_a1 (fT.ofK hK (t0 := 0) rfl) (by omega) (by omega) ((hK6 2 (by decide)).trans (by rw [e2]; rfl)) d_DU_reasonToBeOpen_12 ?_
        refine lv_iconst (v := (-1)) hx hb d_DU_reasonToBeOpen_13 (by decide) ?_
        refine lv_icmp_ne (tgt := 19) hx hb d_DU_reasonToBeOpen_14 (by decide) (fun c_12 => absurd rfl c_12) (fun c_12 => ?_)
        refine lv_iload_n hx hb d_DU_reasonToBeOpen_17 rfl (lv_at hl 0 rfl) ?_
        exact f_iret C hr hI ⟨by unfold rkE; simp only [e0, e1, e2]; try rfl, rfl⟩ hX (Nat.le_refl _) (Nat.le_refl _) d_DU_reasonToBeOpen_18
      · have bli := bK 2 li e2
        rcases eR : mF rr rm ed 0 g st9 with _ | ra
        · skip
          refine lv_iconst (v := 0) hx hb d_DU_reasonToBeOpen_0 (by decide) ?_
          refine lv_istore_n (lv' := [(2, .int 0), (0, .ref X), (1, .ref R)]) hx hb d_DU_reasonToBeOpen_1 rfl hl (by decide) rfl (fun ls hl => ?_)
          refine lv_iload_n hx hb d_DU_reasonToBeOpen_2 rfl (lv_at hl 0 rfl) ?_
          refine lv_iconst (v := 2) hx hb d_DU_reasonToBeOpen_3 (by decide) ?_
          refine lv_icmp_gt (tgt := 25) hx hb d_DU_reasonToBeOpen_4 (by decide) (fun c_13 => absurd c_13 (by decide)) (fun c_13 => ?_)
          refine lv_aload_n hx hb d_DU_reasonToBeOpen_7 rfl (lv_at hl 1 rfl) ?_
          refine f_get (C := "DutyRules$Duty") (T := T_DU) (N := 9) hx hb (fun w q => hT w (s_DU w q)) hown hK hI g_X rfl 5 (by decide) (hT _ w_117) (fun _ q => q) rfl d_DU_reasonToBeOpen_8 ?_
          refine lv_iload_n hx hb d_DU_reasonToBeOpen_11 rfl (lv_at hl 0 rfl) ?_
          refine f_ialdn (k := 0) (v := (nI g)) hx hb hI g_a1 (fT.ofK hK (t0 := 0) rfl) (by omega) (by omega) ((hK6 0 (by decide)).trans (by rw [e0]; rfl)) d_DU_reasonToBeOpen_12 ?_
          refine lv_iconst (v := (-1)) hx hb d_DU_reasonToBeOpen_13 (by decide) ?_
          refine lv_icmp_ne (tgt := 19) hx hb d_DU_reasonToBeOpen_14 (by decide) (fun c_14 => ?_) (fun c_14 => absurd c_14 (n_m1 (by omega)))
          refine lv_iinc (v := 1) (lv' := [(2, .int 1), (0, .ref X), (1, .ref R)]) hx hb d_DU_reasonToBeOpen_19 hl (k := 0) rfl (by decide) (by decide) rfl (fun ls hl => ?_)
          refine lv_goto (tgt := 2) hx hb d_DU_reasonToBeOpen_22 (by decide) ?_
          refine lv_iload_n hx hb d_DU_reasonToBeOpen_2 rfl (lv_at hl 0 rfl) ?_
          refine lv_iconst (v := 2) hx hb d_DU_reasonToBeOpen_3 (by decide) ?_
          refine lv_icmp_gt (tgt := 25) hx hb d_DU_reasonToBeOpen_4 (by decide) (fun c_15 => absurd c_15 (by decide)) (fun c_15 => ?_)
          refine lv_aload_n hx hb d_DU_reasonToBeOpen_7 rfl (lv_at hl 1 rfl) ?_
          refine f_get (C := "DutyRules$Duty") (T := T_DU) (N := 9) hx hb (fun w q => hT w (s_DU w q)) hown hK hI g_X rfl 5 (by decide) (hT _ w_117) (fun _ q => q) rfl d_DU_reasonToBeOpen_8 ?_
          refine lv_iload_n hx hb d_DU_reasonToBeOpen_11 rfl (lv_at hl 0 rfl) ?_
          refine f_ialdn (k := 1) (v := (nI st9)) hx hb hI g_a1 (fT.ofK hK (t0 := 0) rfl) (by omega) (by omega) ((hK6 1 (by decide)).trans (by rw [e1]; rfl)) d_DU_reasonToBeOpen_12 ?_
          refine lv_iconst (v := (-1)) hx hb d_DU_reasonToBeOpen_13 (by decide) ?_
          refine lv_icmp_ne (tgt := 19) hx hb d_DU_reasonToBeOpen_14 (by decide) (fun c_16 => ?_) (fun c_16 => absurd c_16 (n_m1 (by omega)))
          refine lv_iinc (v := 2) (lv' := [(2, .int 2), (0, .ref X), (1, .ref R)]) hx hb d_DU_reasonToBeOpen_19 hl (k := 0) rfl (by decide) (by decide) rfl (fun ls hl => ?_)
          refine lv_goto (tgt := 2) hx hb d_DU_reasonToBeOpen_22 (by decide) ?_
          refine lv_iload_n hx hb d_DU_reasonToBeOpen_2 rfl (lv_at hl 0 rfl) ?_
          refine lv_iconst (v := 2) hx hb d_DU_reasonToBeOpen_3 (by decide) ?_
          refine lv_icmp_gt (tgt := 25) hx hb d_DU_reasonToBeOpen_4 (by decide) (fun c_17 => absurd c_17 (by decide)) (fun c_17 => ?_)
          refine lv_aload_n hx hb d_DU_reasonToBeOpen_7 rfl (lv_at hl 1 rfl) ?_
          refine f_get (C := "DutyRules$Duty") (T := T_DU) (N := 9) hx hb (fun w q => hT w (s_DU w q)) hown hK hI g_X rfl 5 (by decide) (hT _ w_117) (fun _ q => q) rfl d_DU_reasonToBeOpen_8 ?_
          refine lv_iload_n hx hb d_DU_reasonToBeOpen_11 rfl (lv_at hl 0 rfl) ?_
          refine f_ialdn (k := 2) (v := (nI li)) hx hb hI g_a1 (fT.ofK hK (t0 := 0) rfl) (by omega) (by omega) ((hK6 2 (by decide)).trans (by rw [e2]; rfl)) d_DU_reasonToBeOpen_12 ?_
          refine lv_iconst (v := (-1)) hx hb d_DU_reasonToBeOpen_13 (by decide) ?_
          refine lv_icmp_ne (tgt := 19) hx hb d_DU_reasonToBeOpen_14 (by decide) (fun c_18 => ?_) (fun c_18 => absurd c_18 (n_m1 (by omega)))
          refine lv_iinc (v := 3) (lv' := [(2, .int 3), (0, .ref X), (1, .ref R)]) hx hb d_DU_reasonToBeOpen_19 hl (k := 0) rfl (by decide) (by decide) rfl (fun ls hl => ?_)
          refine lv_goto (tgt := 2) hx hb d_DU_reasonToBeOpen_22 (by decide) ?_
          refine lv_iload_n hx hb d_DU_reasonToBeOpen_2 rfl (lv_at hl 0 rfl) ?_
          refine lv_iconst (v := 2) hx hb d_DU_reasonToBeOpen_3 (by decide) ?_
          refine lv_icmp_gt (tgt := 25) hx hb d_DU_reasonToBeOpen_4 (by decide) (fun c_19 => ?_) (fun c_19 => absurd (by decide) c_19)
          refine lv_aload_n hx hb d_DU_reasonToBeOpen_25 rfl (lv_at hl 2 rfl) ?_
          refine lv_aload_n hx hb d_DU_reasonToBeOpen_26 rfl (lv_at hl 1 rfl) ?_
          refine f_get (C := "DutyRules$Duty") (T := T_DU) (N := 9) hx hb (fun w q => hT w (s_DU w q)) hown hK hI g_X rfl 5 (by decide) (hT _ w_117) (fun _ q => q) rfl d_DU_reasonToBeOpen_27 ?_
          refine lv_iconst (v := 0) hx hb d_DU_reasonToBeOpen_30 (by decide) ?_
          refine f_ialdn (k := 0) (v := (nI g)) hx hb hI g_a1 (fT.ofK hK (t0 := 0) rfl) (by omega) (by omega) ((hK6 0 (by decide)).trans (by rw [e0]; rfl)) d_DU_reasonToBeOpen_31 ?_
          refine lv_aload_n hx hb d_DU_reasonToBeOpen_32 rfl (lv_at hl 1 rfl) ?_
          refine f_get (C := "DutyRules$Duty") (T := T_DU) (N := 9) hx hb (fun w q => hT w (s_DU w q)) hown hK hI g_X rfl 5 (by decide) (hT _ w_117) (fun _ q => q) rfl d_DU_reasonToBeOpen_33 ?_
          refine lv_iconst (v := 1) hx hb d_DU_reasonToBeOpen_36 (by decide) ?_
          refine f_ialdn (k := 1) (v := (nI st9)) hx hb hI g_a1 (fT.ofK hK (t0 := 0) rfl) (by omega) (by omega) ((hK6 1 (by decide)).trans (by rw [e1]; rfl)) d_DU_reasonToBeOpen_37 ?_
          refine f_calli hI (f_runV C hI (k_rate l G h _ R ed rr rm hc g st9 (by omega) (by omega)) gm_RU_firstRate w_639 w_640 w_638 g_R rfl rfl rfl hl.1 rfl (Nat.le_of_ble_eq_true rfl) ⟨Nat.le_of_ble_eq_true rfl, Nat.le_of_ble_eq_true rfl⟩ d_DU_reasonToBeOpen_38 ⟨Nat.le_of_ble_eq_true rfl, Nat.le_of_ble_eq_true rfl⟩) (fun r_20 h8 H9 locs hp9 hX9 hz9 hI => ?_)
          obtain ⟨rfl, e9⟩ := hp9
          rw [e9] at hI
          clear hX9 e9
          rw [eR]
          refine lv_iconst (v := (-1)) hx hb d_DU_reasonToBeOpen_41 (by decide) ?_
          refine lv_icmp_ne (tgt := 48) hx hb d_DU_reasonToBeOpen_42 (by decide) (fun c_21 => absurd rfl c_21) (fun c_21 => ?_)
          refine lv_bipush (v := 21) hx hb d_DU_reasonToBeOpen_45 (by decide) ?_
          exact f_iret C hr hI ⟨by unfold rkE; simp only [e0, e1, e2, eR]; try rfl, rfl⟩ hX (Nat.le_refl _) (Nat.le_refl _) d_DU_reasonToBeOpen_47
        · have hra := mF_k eR
          have hrm := (show rm ed ≤ 40 by obtain ⟨_, _, ⟨_, _, _, _, _, q, _⟩, _⟩ := id hc; exact q)
          rcases e3 : K 3 with _ | ye
          · rcases eS : mF rr rm ed 1 g 0 with _ | r
            · skip
              refine lv_iconst (v := 0) hx hb d_DU_reasonToBeOpen_0 (by decide) ?_
              refine lv_istore_n (lv' := [(2, .int 0), (0, .ref X), (1, .ref R)]) hx hb d_DU_reasonToBeOpen_1 rfl hl (by decide) rfl (fun ls hl => ?_)
              refine lv_iload_n hx hb d_DU_reasonToBeOpen_2 rfl (lv_at hl 0 rfl) ?_
              refine lv_iconst (v := 2) hx hb d_DU_reasonToBeOpen_3 (by decide) ?_
              refine lv_icmp_gt (tgt := 25) hx hb d_DU_reasonToBeOpen_4 (by decide) (fun c_22 => absurd c_22 (by decide)) (fun c_22 => ?_)
              refine lv_aload_n hx hb d_DU_reasonToBeOpen_7 rfl (lv_at hl 1 rfl) ?_
              refine f_get (C := "DutyRules$Duty") (T := T_DU) (N := 9) hx hb (fun w q => hT w (s_DU w q)) hown hK hI g_X rfl 5 (by decide) (hT _ w_117) (fun _ q => q) rfl d_DU_reasonToBeOpen_8 ?_
              refine lv_iload_n hx hb d_DU_reasonToBeOpen_11 rfl (lv_at hl 0 rfl) ?_
              refine f_ialdn (k := 0) (v := (nI g)) hx hb hI g_a1 (fT.ofK hK (t0 := 0) rfl) (by omega) (by omega) ((hK6 0 (by decide)).trans (by rw [e0]; rfl)) d_DU_reasonToBeOpen_12 ?_
              refine lv_iconst (v := (-1)) hx hb d_DU_reasonToBeOpen_13 (by decide) ?_
              refine lv_icmp_ne (tgt := 19) hx hb d_DU_reasonToBeOpen_14 (by decide) (fun c_23 => ?_) (fun c_23 => absurd c_23 (n_m1 (by omega)))
              refine lv_iinc (v := 1) (lv' := [(2, .int 1), (0, .ref X), (1, .ref R)]) hx hb d_DU_reasonToBeOpen_19 hl (k := 0) rfl (by decide) (by decide) rfl (fun ls hl => ?_)
              refine lv_goto (tgt := 2) hx hb d_DU_reasonToBeOpen_22 (by decide) ?_
              refine lv_iload_n hx hb d_DU_reasonToBeOpen_2 rfl (lv_at hl 0 rfl) ?_
              refine lv_iconst (v := 2) hx hb d_DU_reasonToBeOpen_3 (by decide) ?_
              refine lv_icmp_gt (tgt := 25) hx hb d_DU_reasonToBeOpen_4 (by decide) (fun c_24 => absurd c_24 (by decide)) (fun c_24 => ?_)
              refine lv_aload_n hx hb d_DU_reasonToBeOpen_7 rfl (lv_at hl 1 rfl) ?_
              refine f_get (C := "DutyRules$Duty") (T := T_DU) (N := 9) hx hb (fun w q => hT w (s_DU w q)) hown hK hI g_X rfl 5 (by decide) (hT _ w_117) (fun _ q => q) rfl d_DU_reasonToBeOpen_8 ?_
              refine lv_iload_n hx hb d_DU_reasonToBeOpen_11 rfl (lv_at hl 0 rfl) ?_
              refine f_ialdn (k := 1) (v := (nI st9)) hx hb hI g_a1 (fT.ofK hK (t0 := 0) rfl) (by omega) (by omega) ((hK6 1 (by decide)).trans (by rw [e1]; rfl)) d_DU_reasonToBeOpen_12 ?_
              refine lv_iconst (v := (-1)) hx hb d_DU_reasonToBeOpen_13 (by decide) ?_
              refine lv_icmp_ne (tgt := 19) hx hb d_DU_reasonToBeOpen_14 (by decide) (fun c_25 => ?_) (fun c_25 => absurd c_25 (n_m1 (by omega)))
              refine lv_iinc (v := 2) (lv' := [(2, .int 2), (0, .ref X), (1, .ref R)]) hx hb d_DU_reasonToBeOpen_19 hl (k := 0) rfl (by decide) (by decide) rfl (fun ls hl => ?_)
              refine lv_goto (tgt := 2) hx hb d_DU_reasonToBeOpen_22 (by decide) ?_
              refine lv_iload_n hx hb d_DU_reasonToBeOpen_2 rfl (lv_at hl 0 rfl) ?_
              refine lv_iconst (v := 2) hx hb d_DU_reasonToBeOpen_3 (by decide) ?_
              refine lv_icmp_gt (tgt := 25) hx hb d_DU_reasonToBeOpen_4 (by decide) (fun c_26 => absurd c_26 (by decide)) (fun c_26 => ?_)
              refine lv_aload_n hx hb d_DU_reasonToBeOpen_7 rfl (lv_at hl 1 rfl) ?_
              refine f_get (C := "DutyRules$Duty") (T := T_DU) (N := 9) hx hb (fun w q => hT w (s_DU w q)) hown hK hI g_X rfl 5 (by decide) (hT _ w_117) (fun _ q => q) rfl d_DU_reasonToBeOpen_8 ?_
              refine lv_iload_n hx hb d_DU_reasonToBeOpen_11 rfl (lv_at hl 0 rfl) ?_
              refine f_ialdn (k := 2) (v := (nI li)) hx hb hI g_a1 (fT.ofK hK (t0 := 0) rfl) (by omega) (by omega) ((hK6 2 (by decide)).trans (by rw [e2]; rfl)) d_DU_reasonToBeOpen_12 ?_
              refine lv_iconst (v := (-1)) hx hb d_DU_reasonToBeOpen_13 (by decide) ?_
              refine lv_icmp_ne (tgt := 19) hx hb d_DU_reasonToBeOpen_14 (by decide) (fun c_27 => ?_) (fun c_27 => absurd c_27 (n_m1 (by omega)))
              refine lv_iinc (v := 3) (lv' := [(2, .int 3), (0, .ref X), (1, .ref R)]) hx hb d_DU_reasonToBeOpen_19 hl (k := 0) rfl (by decide) (by decide) rfl (fun ls hl => ?_)
              refine lv_goto (tgt := 2) hx hb d_DU_reasonToBeOpen_22 (by decide) ?_
              refine lv_iload_n hx hb d_DU_reasonToBeOpen_2 rfl (lv_at hl 0 rfl) ?_
              refine lv_iconst (v := 2) hx hb d_DU_reasonToBeOpen_3 (by decide) ?_
              refine lv_icmp_gt (tgt := 25) hx hb d_DU_reasonToBeOpen_4 (by decide) (fun c_28 => ?_) (fun c_28 => absurd (by decide) c_28)
              refine lv_aload_n hx hb d_DU_reasonToBeOpen_25 rfl (lv_at hl 2 rfl) ?_
              refine lv_aload_n hx hb d_DU_reasonToBeOpen_26 rfl (lv_at hl 1 rfl) ?_
              refine f_get (C := "DutyRules$Duty") (T := T_DU) (N := 9) hx hb (fun w q => hT w (s_DU w q)) hown hK hI g_X rfl 5 (by decide) (hT _ w_117) (fun _ q => q) rfl d_DU_reasonToBeOpen_27 ?_
              refine lv_iconst (v := 0) hx hb d_DU_reasonToBeOpen_30 (by decide) ?_
              refine f_ialdn (k := 0) (v := (nI g)) hx hb hI g_a1 (fT.ofK hK (t0 := 0) rfl) (by omega) (by omega) ((hK6 0 (by decide)).trans (by rw [e0]; rfl)) d_DU_reasonToBeOpen_31 ?_
              refine lv_aload_n hx hb d_DU_reasonToBeOpen_32 rfl (lv_at hl 1 rfl) ?_
              refine f_get (C := "DutyRules$Duty") (T := T_DU) (N := 9) hx hb (fun w q => hT w (s_DU w q)) hown hK hI g_X rfl 5 (by decide) (hT _ w_117) (fun _ q => q) rfl d_DU_reasonToBeOpen_33 ?_
              refine lv_iconst (v := 1) hx hb d_DU_reasonToBeOpen_36 (by decide) ?_
              refine f_ialdn (k := 1) (v := (nI st9)) hx hb hI g_a1 (fT.ofK hK (t0 := 0) rfl) (by omega) (by omega) ((hK6 1 (by decide)).trans (by rw [e1]; rfl)) d_DU_reasonToBeOpen_37 ?_
              refine f_calli hI (f_runV C hI (k_rate l G h _ R ed rr rm hc g st9 (by omega) (by omega)) gm_RU_firstRate w_639 w_640 w_638 g_R rfl rfl rfl hl.1 rfl (Nat.le_of_ble_eq_true rfl) ⟨Nat.le_of_ble_eq_true rfl, Nat.le_of_ble_eq_true rfl⟩ d_DU_reasonToBeOpen_38 ⟨Nat.le_of_ble_eq_true rfl, Nat.le_of_ble_eq_true rfl⟩) (fun r_29 h8 H9 locs hp9 hX9 hz9 hI => ?_)
              obtain ⟨rfl, e9⟩ := hp9
              rw [e9] at hI
              clear hX9 e9
              rw [eR]
              refine lv_iconst (v := (-1)) hx hb d_DU_reasonToBeOpen_41 (by decide) ?_
              refine lv_icmp_ne (tgt := 48) hx hb d_DU_reasonToBeOpen_42 (by decide) (fun c_30 => ?_) (fun c_30 => absurd c_30 (n_m1 (by omega)))
              refine lv_aload_n hx hb d_DU_reasonToBeOpen_48 rfl (lv_at hl 1 rfl) ?_
              refine f_get (C := "DutyRules$Duty") (T := T_DU) (N := 9) hx hb (fun w q => hT w (s_DU w q)) hown hK hI g_X rfl 5 (by decide) (hT _ w_117) (fun _ q => q) rfl d_DU_reasonToBeOpen_49 ?_
              refine lv_iconst (v := 3) hx hb d_DU_reasonToBeOpen_52 (by decide) ?_
              refine f_ialdn (k := 3) (v := (-1)) hx hb hI g_a1 (fT.ofK hK (t0 := 0) rfl) (by omega) (by omega) ((hK6 3 (by decide)).trans (by rw [e3]; rfl)) d_DU_reasonToBeOpen_53 ?_
              refine lv_iconst (v := (-1)) hx hb d_DU_reasonToBeOpen_54 (by decide) ?_
              refine lv_icmp_ne (tgt := 75) hx hb d_DU_reasonToBeOpen_55 (by decide) (fun c_31 => absurd rfl c_31) (fun c_31 => ?_)
              refine lv_aload_n hx hb d_DU_reasonToBeOpen_58 rfl (lv_at hl 2 rfl) ?_
              refine lv_iconst (v := 1) hx hb d_DU_reasonToBeOpen_59 (by decide) ?_
              refine lv_aload_n hx hb d_DU_reasonToBeOpen_60 rfl (lv_at hl 1 rfl) ?_
              refine f_get (C := "DutyRules$Duty") (T := T_DU) (N := 9) hx hb (fun w q => hT w (s_DU w q)) hown hK hI g_X rfl 5 (by decide) (hT _ w_117) (fun _ q => q) rfl d_DU_reasonToBeOpen_61 ?_
              refine lv_iconst (v := 0) hx hb d_DU_reasonToBeOpen_64 (by decide) ?_
              refine f_ialdn (k := 0) (v := (nI g)) hx hb hI g_a1 (fT.ofK hK (t0 := 0) rfl) (by omega) (by omega) ((hK6 0 (by decide)).trans (by rw [e0]; rfl)) d_DU_reasonToBeOpen_65 ?_
              refine f_calli hI (f_runV C hI (k_goods l G h _ R ed rr rm hc 1 g (by decide) (by decide) (by omega)) gm_RU_firstOfGoods w_643 w_644 w_642 g_R rfl rfl rfl hl.1 rfl (Nat.le_of_ble_eq_true rfl) ⟨Nat.le_of_ble_eq_true rfl, Nat.le_of_ble_eq_true rfl⟩ d_DU_reasonToBeOpen_66 ⟨Nat.le_of_ble_eq_true rfl, Nat.le_of_ble_eq_true rfl⟩) (fun r_32 h8 H9 locs hp9 hX9 hz9 hI => ?_)
              obtain ⟨rfl, e9⟩ := hp9
              rw [e9] at hI
              clear hX9 e9
              rw [eS]
              refine lv_iconst (v := (-1)) hx hb d_DU_reasonToBeOpen_69 (by decide) ?_
              refine lv_icmp_eq (tgt := 75) hx hb d_DU_reasonToBeOpen_70 (by decide) (fun c_33 => ?_) (fun c_33 => absurd rfl c_33)
              refine lv_iconst (v := (-1)) hx hb d_DU_reasonToBeOpen_75 (by decide) ?_
              exact f_iret C hr hI ⟨by unfold rkE; simp only [e0, e1, e2, eR, e3, eS]; try rfl, rfl⟩ hX (Nat.le_refl _) (Nat.le_refl _) d_DU_reasonToBeOpen_76
            · have hr1 := mF_k eS
              refine lv_iconst (v := 0) hx hb d_DU_reasonToBeOpen_0 (by decide) ?_
              refine lv_istore_n (lv' := [(2, .int 0), (0, .ref X), (1, .ref R)]) hx hb d_DU_reasonToBeOpen_1 rfl hl (by decide) rfl (fun ls hl => ?_)
              refine lv_iload_n hx hb d_DU_reasonToBeOpen_2 rfl (lv_at hl 0 rfl) ?_
              refine lv_iconst (v := 2) hx hb d_DU_reasonToBeOpen_3 (by decide) ?_
              refine lv_icmp_gt (tgt := 25) hx hb d_DU_reasonToBeOpen_4 (by decide) (fun c_34 => absurd c_34 (by decide)) (fun c_34 => ?_)
              refine lv_aload_n hx hb d_DU_reasonToBeOpen_7 rfl (lv_at hl 1 rfl) ?_
              refine f_get (C := "DutyRules$Duty") (T := T_DU) (N := 9) hx hb (fun w q => hT w (s_DU w q)) hown hK hI g_X rfl 5 (by decide) (hT _ w_117) (fun _ q => q) rfl d_DU_reasonToBeOpen_8 ?_
              refine lv_iload_n hx hb d_DU_reasonToBeOpen_11 rfl (lv_at hl 0 rfl) ?_
              refine f_ialdn (k := 0) (v := (nI g)) hx hb hI g_a1 (fT.ofK hK (t0 := 0) rfl) (by omega) (by omega) ((hK6 0 (by decide)).trans (by rw [e0]; rfl)) d_DU_reasonToBeOpen_12 ?_
              refine lv_iconst (v := (-1)) hx hb d_DU_reasonToBeOpen_13 (by decide) ?_
              refine lv_icmp_ne (tgt := 19) hx hb d_DU_reasonToBeOpen_14 (by decide) (fun c_35 => ?_) (fun c_35 => absurd c_35 (n_m1 (by omega)))
              refine lv_iinc (v := 1) (lv' := [(2, .int 1), (0, .ref X), (1, .ref R)]) hx hb d_DU_reasonToBeOpen_19 hl (k := 0) rfl (by decide) (by decide) rfl (fun ls hl => ?_)
              refine lv_goto (tgt := 2) hx hb d_DU_reasonToBeOpen_22 (by decide) ?_
              refine lv_iload_n hx hb d_DU_reasonToBeOpen_2 rfl (lv_at hl 0 rfl) ?_
              refine lv_iconst (v := 2) hx hb d_DU_reasonToBeOpen_3 (by decide) ?_
              refine lv_icmp_gt (tgt := 25) hx hb d_DU_reasonToBeOpen_4 (by decide) (fun c_36 => absurd c_36 (by decide)) (fun c_36 => ?_)
              refine lv_aload_n hx hb d_DU_reasonToBeOpen_7 rfl (lv_at hl 1 rfl) ?_
              refine f_get (C := "DutyRules$Duty") (T := T_DU) (N := 9) hx hb (fun w q => hT w (s_DU w q)) hown hK hI g_X rfl 5 (by decide) (hT _ w_117) (fun _ q => q) rfl d_DU_reasonToBeOpen_8 ?_
              refine lv_iload_n hx hb d_DU_reasonToBeOpen_11 rfl (lv_at hl 0 rfl) ?_
              refine f_ialdn (k := 1) (v := (nI st9)) hx hb hI g_a1 (fT.ofK hK (t0 := 0) rfl) (by omega) (by omega) ((hK6 1 (by decide)).trans (by rw [e1]; rfl)) d_DU_reasonToBeOpen_12 ?_
              refine lv_iconst (v := (-1)) hx hb d_DU_reasonToBeOpen_13 (by decide) ?_
              refine lv_icmp_ne (tgt := 19) hx hb d_DU_reasonToBeOpen_14 (by decide) (fun c_37 => ?_) (fun c_37 => absurd c_37 (n_m1 (by omega)))
              refine lv_iinc (v := 2) (lv' := [(2, .int 2), (0, .ref X), (1, .ref R)]) hx hb d_DU_reasonToBeOpen_19 hl (k := 0) rfl (by decide) (by decide) rfl (fun ls hl => ?_)
              refine lv_goto (tgt := 2) hx hb d_DU_reasonToBeOpen_22 (by decide) ?_
              refine lv_iload_n hx hb d_DU_reasonToBeOpen_2 rfl (lv_at hl 0 rfl) ?_
              refine lv_iconst (v := 2) hx hb d_DU_reasonToBeOpen_3 (by decide) ?_
              refine lv_icmp_gt (tgt := 25) hx hb d_DU_reasonToBeOpen_4 (by decide) (fun c_38 => absurd c_38 (by decide)) (fun c_38 => ?_)
              refine lv_aload_n hx hb d_DU_reasonToBeOpen_7 rfl (lv_at hl 1 rfl) ?_
              refine f_get (C := "DutyRules$Duty") (T := T_DU) (N := 9) hx hb (fun w q => hT w (s_DU w q)) hown hK hI g_X rfl 5 (by decide) (hT _ w_117) (fun _ q => q) rfl d_DU_reasonToBeOpen_8 ?_
              refine lv_iload_n hx hb d_DU_reasonToBeOpen_11 rfl (lv_at hl 0 rfl) ?_
              refine f_ialdn (k := 2) (v := (nI li)) hx hb hI g_a1 (fT.ofK hK (t0 := 0) rfl) (by omega) (by omega) ((hK6 2 (by decide)).trans (by rw [e2]; rfl)) d_DU_reasonToBeOpen_12 ?_
              refine lv_iconst (v := (-1)) hx hb d_DU_reasonToBeOpen_13 (by decide) ?_
              refine lv_icmp_ne (tgt := 19) hx hb d_DU_reasonToBeOpen_14 (by decide) (fun c_39 => ?_) (fun c_39 => absurd c_39 (n_m1 (by omega)))
              refine lv_iinc (v := 3) (lv' := [(2, .int 3), (0, .ref X), (1, .ref R)]) hx hb d_DU_reasonToBeOpen_19 hl (k := 0) rfl (by decide) (by decide) rfl (fun ls hl => ?_)
              refine lv_goto (tgt := 2) hx hb d_DU_reasonToBeOpen_22 (by decide) ?_
              refine lv_iload_n hx hb d_DU_reasonToBeOpen_2 rfl (lv_at hl 0 rfl) ?_
              refine lv_iconst (v := 2) hx hb d_DU_reasonToBeOpen_3 (by decide) ?_
              refine lv_icmp_gt (tgt := 25) hx hb d_DU_reasonToBeOpen_4 (by decide) (fun c_40 => ?_) (fun c_40 => absurd (by decide) c_40)
              refine lv_aload_n hx hb d_DU_reasonToBeOpen_25 rfl (lv_at hl 2 rfl) ?_
              refine lv_aload_n hx hb d_DU_reasonToBeOpen_26 rfl (lv_at hl 1 rfl) ?_
              refine f_get (C := "DutyRules$Duty") (T := T_DU) (N := 9) hx hb (fun w q => hT w (s_DU w q)) hown hK hI g_X rfl 5 (by decide) (hT _ w_117) (fun _ q => q) rfl d_DU_reasonToBeOpen_27 ?_
              refine lv_iconst (v := 0) hx hb d_DU_reasonToBeOpen_30 (by decide) ?_
              refine f_ialdn (k := 0) (v := (nI g)) hx hb hI g_a1 (fT.ofK hK (t0 := 0) rfl) (by omega) (by omega) ((hK6 0 (by decide)).trans (by rw [e0]; rfl)) d_DU_reasonToBeOpen_31 ?_
              refine lv_aload_n hx hb d_DU_reasonToBeOpen_32 rfl (lv_at hl 1 rfl) ?_
              refine f_get (C := "DutyRules$Duty") (T := T_DU) (N := 9) hx hb (fun w q => hT w (s_DU w q)) hown hK hI g_X rfl 5 (by decide) (hT _ w_117) (fun _ q => q) rfl d_DU_reasonToBeOpen_33 ?_
              refine lv_iconst (v := 1) hx hb d_DU_reasonToBeOpen_36 (by decide) ?_
              refine f_ialdn (k := 1) (v := (nI st9)) hx hb hI g_a1 (fT.ofK hK (t0 := 0) rfl) (by omega) (by omega) ((hK6 1 (by decide)).trans (by rw [e1]; rfl)) d_DU_reasonToBeOpen_37 ?_
              refine f_calli hI (f_runV C hI (k_rate l G h _ R ed rr rm hc g st9 (by omega) (by omega)) gm_RU_firstRate w_639 w_640 w_638 g_R rfl rfl rfl hl.1 rfl (Nat.le_of_ble_eq_true rfl) ⟨Nat.le_of_ble_eq_true rfl, Nat.le_of_ble_eq_true rfl⟩ d_DU_reasonToBeOpen_38 ⟨Nat.le_of_ble_eq_true rfl, Nat.le_of_ble_eq_true rfl⟩) (fun r_41 h8 H9 locs hp9 hX9 hz9 hI => ?_)
              obtain ⟨rfl, e9⟩ := hp9
              rw [e9] at hI
              clear hX9 e9
              rw [eR]
              refine lv_iconst (v := (-1)) hx hb d_DU_reasonToBeOpen_41 (by decide) ?_
              refine lv_icmp_ne (tgt := 48) hx hb d_DU_reasonToBeOpen_42 (by decide) (fun c_42 => ?_) (fun c_42 => absurd c_42 (n_m1 (by omega)))
              refine lv_aload_n hx hb d_DU_reasonToBeOpen_48 rfl (lv_at hl 1 rfl) ?_
              refine f_get (C := "DutyRules$Duty") (T := T_DU) (N := 9) hx hb (fun w q => hT w (s_DU w q)) hown hK hI g_X rfl 5 (by decide) (hT _ w_117) (fun _ q => q) rfl d_DU_reasonToBeOpen_49 ?_
              refine lv_iconst (v := 3) hx hb d_DU_reasonToBeOpen_52 (by decide) ?_
              refine f_ialdn (k := 3) (v := (-1)) hx hb hI g_a1 (fT.ofK hK (t0 := 0) rfl) (by omega) (by omega) ((hK6 3 (by decide)).trans (by rw [e3]; rfl)) d_DU_reasonToBeOpen_53 ?_
              refine lv_iconst (v := (-1)) hx hb d_DU_reasonToBeOpen_54 (by decide) ?_
              refine lv_icmp_ne (tgt := 75) hx hb d_DU_reasonToBeOpen_55 (by decide) (fun c_43 => absurd rfl c_43) (fun c_43 => ?_)
              refine lv_aload_n hx hb d_DU_reasonToBeOpen_58 rfl (lv_at hl 2 rfl) ?_
              refine lv_iconst (v := 1) hx hb d_DU_reasonToBeOpen_59 (by decide) ?_
              refine lv_aload_n hx hb d_DU_reasonToBeOpen_60 rfl (lv_at hl 1 rfl) ?_
              refine f_get (C := "DutyRules$Duty") (T := T_DU) (N := 9) hx hb (fun w q => hT w (s_DU w q)) hown hK hI g_X rfl 5 (by decide) (hT _ w_117) (fun _ q => q) rfl d_DU_reasonToBeOpen_61 ?_
              refine lv_iconst (v := 0) hx hb d_DU_reasonToBeOpen_64 (by decide) ?_
              refine f_ialdn (k := 0) (v := (nI g)) hx hb hI g_a1 (fT.ofK hK (t0 := 0) rfl) (by omega) (by omega) ((hK6 0 (by decide)).trans (by rw [e0]; rfl)) d_DU_reasonToBeOpen_65 ?_
              refine f_calli hI (f_runV C hI (k_goods l G h _ R ed rr rm hc 1 g (by decide) (by decide) (by omega)) gm_RU_firstOfGoods w_643 w_644 w_642 g_R rfl rfl rfl hl.1 rfl (Nat.le_of_ble_eq_true rfl) ⟨Nat.le_of_ble_eq_true rfl, Nat.le_of_ble_eq_true rfl⟩ d_DU_reasonToBeOpen_66 ⟨Nat.le_of_ble_eq_true rfl, Nat.le_of_ble_eq_true rfl⟩) (fun r_44 h8 H9 locs hp9 hX9 hz9 hI => ?_)
              obtain ⟨rfl, e9⟩ := hp9
              rw [e9] at hI
              clear hX9 e9
              rw [eS]
              refine lv_iconst (v := (-1)) hx hb d_DU_reasonToBeOpen_69 (by decide) ?_
              refine lv_icmp_eq (tgt := 75) hx hb d_DU_reasonToBeOpen_70 (by decide) (fun c_45 => absurd c_45 (n_m1 (by omega))) (fun c_45 => ?_)
              refine lv_iconst (v := 3) hx hb d_DU_reasonToBeOpen_73 (by decide) ?_
              exact f_iret C hr hI ⟨by unfold rkE; simp only [e0, e1, e2, eR, e3, eS]; try rfl, rfl⟩ hX (Nat.le_refl _) (Nat.le_refl _) d_DU_reasonToBeOpen_74
          · have by9 := bK 3 ye e3
            refine lv_iconst (v := 0) hx hb d_DU_reasonToBeOpen_0 (by decide) ?_
            refine lv_istore_n (lv' := [(2, .int 0), (0, .ref X), (1, .ref R)]) hx hb d_DU_reasonToBeOpen_1 rfl hl (by decide) rfl (fun ls hl => ?_)
            refine lv_iload_n hx hb d_DU_reasonToBeOpen_2 rfl (lv_at hl 0 rfl) ?_
            refine lv_iconst (v := 2) hx hb d_DU_reasonToBeOpen_3 (by decide) ?_
            refine lv_icmp_gt (tgt := 25) hx hb d_DU_reasonToBeOpen_4 (by decide) (fun c_46 => absurd c_46 (by decide)) (fun c_46 => ?_)
            refine lv_aload_n hx hb d_DU_reasonToBeOpen_7 rfl (lv_at hl 1 rfl) ?_
            refine f_get (C := "DutyRules$Duty") (T := T_DU) (N := 9) hx hb (fun w q => hT w (s_DU w q)) hown hK hI g_X rfl 5 (by decide) (hT _ w_117) (fun _ q => q) rfl d_DU_reasonToBeOpen_8 ?_
            refine lv_iload_n hx hb d_DU_reasonToBeOpen_11 rfl (lv_at hl 0 rfl) ?_
            refine f_ialdn (k := 0) (v := (nI g)) hx hb hI g_a1 (fT.ofK hK (t0 := 0) rfl) (by omega) (by omega) ((hK6 0 (by decide)).trans (by rw [e0]; rfl)) d_DU_reasonToBeOpen_12 ?_
            refine lv_iconst (v := (-1)) hx hb d_DU_reasonToBeOpen_13 (by decide) ?_
            refine lv_icmp_ne (tgt := 19) hx hb d_DU_reasonToBeOpen_14 (by decide) (fun c_47 => ?_) (fun c_47 => absurd c_47 (n_m1 (by omega)))
            refine lv_iinc (v := 1) (lv' := [(2, .int 1), (0, .ref X), (1, .ref R)]) hx hb d_DU_reasonToBeOpen_19 hl (k := 0) rfl (by decide) (by decide) rfl (fun ls hl => ?_)
            refine lv_goto (tgt := 2) hx hb d_DU_reasonToBeOpen_22 (by decide) ?_
            refine lv_iload_n hx hb d_DU_reasonToBeOpen_2 rfl (lv_at hl 0 rfl) ?_
            refine lv_iconst (v := 2) hx hb d_DU_reasonToBeOpen_3 (by decide) ?_
            refine lv_icmp_gt (tgt := 25) hx hb d_DU_reasonToBeOpen_4 (by decide) (fun c_48 => absurd c_48 (by decide)) (fun c_48 => ?_)
            refine lv_aload_n hx hb d_DU_reasonToBeOpen_7 rfl (lv_at hl 1 rfl) ?_
            refine f_get (C := "DutyRules$Duty") (T := T_DU) (N := 9) hx hb (fun w q => hT w (s_DU w q)) hown hK hI g_X rfl 5 (by decide) (hT _ w_117) (fun _ q => q) rfl d_DU_reasonToBeOpen_8 ?_
            refine lv_iload_n hx hb d_DU_reasonToBeOpen_11 rfl (lv_at hl 0 rfl) ?_
            refine f_ialdn (k := 1) (v := (nI st9)) hx hb hI g_a1 (fT.ofK hK (t0 := 0) rfl) (by omega) (by omega) ((hK6 1 (by decide)).trans (by rw [e1]; rfl)) d_DU_reasonToBeOpen_12 ?_
            refine lv_iconst (v := (-1)) hx hb d_DU_reasonToBeOpen_13 (by decide) ?_
            refine lv_icmp_ne (tgt := 19) hx hb d_DU_reasonToBeOpen_14 (by decide) (fun c_49 => ?_) (fun c_49 => absurd c_49 (n_m1 (by omega)))
            refine lv_iinc (v := 2) (lv' := [(2, .int 2), (0, .ref X), (1, .ref R)]) hx hb d_DU_reasonToBeOpen_19 hl (k := 0) rfl (by decide) (by decide) rfl (fun ls hl => ?_)
            refine lv_goto (tgt := 2) hx hb d_DU_reasonToBeOpen_22 (by decide) ?_
            refine lv_iload_n hx hb d_DU_reasonToBeOpen_2 rfl (lv_at hl 0 rfl) ?_
            refine lv_iconst (v := 2) hx hb d_DU_reasonToBeOpen_3 (by decide) ?_
            refine lv_icmp_gt (tgt := 25) hx hb d_DU_reasonToBeOpen_4 (by decide) (fun c_50 => absurd c_50 (by decide)) (fun c_50 => ?_)
            refine lv_aload_n hx hb d_DU_reasonToBeOpen_7 rfl (lv_at hl 1 rfl) ?_
            refine f_get (C := "DutyRules$Duty") (T := T_DU) (N := 9) hx hb (fun w q => hT w (s_DU w q)) hown hK hI g_X rfl 5 (by decide) (hT _ w_117) (fun _ q => q) rfl d_DU_reasonToBeOpen_8 ?_
            refine lv_iload_n hx hb d_DU_reasonToBeOpen_11 rfl (lv_at hl 0 rfl) ?_
            refine f_ialdn (k := 2) (v := (nI li)) hx hb hI g_a1 (fT.ofK hK (t0 := 0) rfl) (by omega) (by omega) ((hK6 2 (by decide)).trans (by rw [e2]; rfl)) d_DU_reasonToBeOpen_12 ?_
            refine lv_iconst (v := (-1)) hx hb d_DU_reasonToBeOpen_13 (by decide) ?_
            refine lv_icmp_ne (tgt := 19) hx hb d_DU_reasonToBeOpen_14 (by decide) (fun c_51 => ?_) (fun c_51 => absurd c_51 (n_m1 (by omega)))
            refine lv_iinc (v := 3) (lv' := [(2, .int 3), (0, .ref X), (1, .ref R)]) hx hb d_DU_reasonToBeOpen_19 hl (k := 0) rfl (by decide) (by decide) rfl (fun ls hl => ?_)
            refine lv_goto (tgt := 2) hx hb d_DU_reasonToBeOpen_22 (by decide) ?_
            refine lv_iload_n hx hb d_DU_reasonToBeOpen_2 rfl (lv_at hl 0 rfl) ?_
            refine lv_iconst (v := 2) hx hb d_DU_reasonToBeOpen_3 (by decide) ?_
            refine lv_icmp_gt (tgt := 25) hx hb d_DU_reasonToBeOpen_4 (by decide) (fun c_52 => ?_) (fun c_52 => absurd (by decide) c_52)
            refine lv_aload_n hx hb d_DU_reasonToBeOpen_25 rfl (lv_at hl 2 rfl) ?_
            refine lv_aload_n hx hb d_DU_reasonToBeOpen_26 rfl (lv_at hl 1 rfl) ?_
            refine f_get (C := "DutyRules$Duty") (T := T_DU) (N := 9) hx hb (fun w q => hT w (s_DU w q)) hown hK hI g_X rfl 5 (by decide) (hT _ w_117) (fun _ q => q) rfl d_DU_reasonToBeOpen_27 ?_
            refine lv_iconst (v := 0) hx hb d_DU_reasonToBeOpen_30 (by decide) ?_
            refine f_ialdn (k := 0) (v := (nI g)) hx hb hI g_a1 (fT.ofK hK (t0 := 0) rfl) (by omega) (by omega) ((hK6 0 (by decide)).trans (by rw [e0]; rfl)) d_DU_reasonToBeOpen_31 ?_
            refine lv_aload_n hx hb d_DU_reasonToBeOpen_32 rfl (lv_at hl 1 rfl) ?_
            refine f_get (C := "DutyRules$Duty") (T := T_DU) (N := 9) hx hb (fun w q => hT w (s_DU w q)) hown hK hI g_X rfl 5 (by decide) (hT _ w_117) (fun _ q => q) rfl d_DU_reasonToBeOpen_33 ?_
            refine lv_iconst (v := 1) hx hb d_DU_reasonToBeOpen_36 (by decide) ?_
            refine f_ialdn (k := 1) (v := (nI st9)) hx hb hI g_a1 (fT.ofK hK (t0 := 0) rfl) (by omega) (by omega) ((hK6 1 (by decide)).trans (by rw [e1]; rfl)) d_DU_reasonToBeOpen_37 ?_
            refine f_calli hI (f_runV C hI (k_rate l G h _ R ed rr rm hc g st9 (by omega) (by omega)) gm_RU_firstRate w_639 w_640 w_638 g_R rfl rfl rfl hl.1 rfl (Nat.le_of_ble_eq_true rfl) ⟨Nat.le_of_ble_eq_true rfl, Nat.le_of_ble_eq_true rfl⟩ d_DU_reasonToBeOpen_38 ⟨Nat.le_of_ble_eq_true rfl, Nat.le_of_ble_eq_true rfl⟩) (fun r_53 h8 H9 locs hp9 hX9 hz9 hI => ?_)
            obtain ⟨rfl, e9⟩ := hp9
            rw [e9] at hI
            clear hX9 e9
            rw [eR]
            refine lv_iconst (v := (-1)) hx hb d_DU_reasonToBeOpen_41 (by decide) ?_
            refine lv_icmp_ne (tgt := 48) hx hb d_DU_reasonToBeOpen_42 (by decide) (fun c_54 => ?_) (fun c_54 => absurd c_54 (n_m1 (by omega)))
            refine lv_aload_n hx hb d_DU_reasonToBeOpen_48 rfl (lv_at hl 1 rfl) ?_
            refine f_get (C := "DutyRules$Duty") (T := T_DU) (N := 9) hx hb (fun w q => hT w (s_DU w q)) hown hK hI g_X rfl 5 (by decide) (hT _ w_117) (fun _ q => q) rfl d_DU_reasonToBeOpen_49 ?_
            refine lv_iconst (v := 3) hx hb d_DU_reasonToBeOpen_52 (by decide) ?_
            refine f_ialdn (k := 3) (v := (nI ye)) hx hb hI g_a1 (fT.ofK hK (t0 := 0) rfl) (by omega) (by omega) ((hK6 3 (by decide)).trans (by rw [e3]; rfl)) d_DU_reasonToBeOpen_53 ?_
            refine lv_iconst (v := (-1)) hx hb d_DU_reasonToBeOpen_54 (by decide) ?_
            refine lv_icmp_ne (tgt := 75) hx hb d_DU_reasonToBeOpen_55 (by decide) (fun c_55 => ?_) (fun c_55 => absurd c_55 (n_m1 (by omega)))
            refine lv_iconst (v := (-1)) hx hb d_DU_reasonToBeOpen_75 (by decide) ?_
            exact f_iret C hr hI ⟨by unfold rkE; simp only [e0, e1, e2, eR, e3, Option.isNone_some, Bool.false_eq_true, and_false, if_false]; try rfl, rfl⟩ hX (Nat.le_refl _) (Nat.le_refl _) d_DU_reasonToBeOpen_76
theorem gm_DU_doSteps : gM y_DU_doSteps b_DU_doSteps 5 none 1 := ⟨w_649, w_8, ⟨by decide, by decide⟩, by decide +kernel⟩
set_option maxHeartbeats 4000000 in
set_option maxRecDepth 100000 in
/-- DU_doSteps  -/
theorem c_DU_doSteps (l : Launch) (G : gG) (h : fH) (sz : Nat) (X ow : Nat) (lt rs : Int32) (hv : Nat → Int32) (hD : cDu G h X ow lt rs hv ([], 0, 0)) (K : Nat → Option Nat) (hK6 : ∀ k, k < 6 → hv k = oN (K k)) (R ed : Nat) (rr rm : Nat → Nat) (hc : cR G h R rr rm ed) (hok : okE rr rm ed) (g st9 li ra : Nat) (hg : K 0 = some g) (hst : K 1 = some st9) (hli : K 2 = some li) (hra : mF rr rm ed 0 g st9 = some ra) (bg : g ≤ 9) (bst : st9 ≤ 100000000) (bli : li ≤ 1000000) (hn3 : ¬ ((mF rr rm ed 1 g 0).isSome = true ∧ (K 3).isNone = true)) (bK : ∀ k v, K k = some v → v ≤ 100000000) : cM l y_DU_doSteps b_DU_doSteps 5 none { frames := 3, cells := 0, slots := 0, locals := 71 } G [.ref X, .ref R] h sz (cQv G h sz (fun h' => cDu G h' X ow lt rs hv (rkS K (mF rr rm ed) (mV rr ed) g li ra) ∧ fF (inD ow) h h')) := by
  refine f_start (by decide) (Nat.le_of_ble_eq_true rfl) ?_
  intro p e s m below meth c ls C hr hsz hI hl
  obtain ⟨hx, hb, hml, hown, hnm, hlk, hT, hG, hZ⟩ := id C
  have hK := hG.1
  have hX : fX h sz h := fX.rf
  have hl : lv_has ls 5 [(0, .ref X), (1, .ref R)] := hl
  obtain ⟨a1, a2, a3, a4, sl, sr, sc, g_X, g_a1, g_a2, g_a3, g_a4, bdl, hq⟩ := id hD
  have hF : fF (inD ow) h h := fF.rf
  obtain ⟨kf0, nf0, ⟨b1, b2, g_R, _⟩, _⟩ := id hc
  obtain ⟨hrn, hkr⟩ := mF_k hra
  have hokr := hok ra hrn
  have hpay : mV rr ed ra 4 ≤ 1000000 := (hokr.2.2.1 hkr).2.2
  have hrm := (show rm ed ≤ 40 by obtain ⟨_, _, ⟨_, _, _, _, _, q, _⟩, _⟩ := id hc; exact q)
  have hlp : li * mV rr ed ra 4 ≤ 1000000 * 1000000 := mulle bli hpay
  refine lv_aload_n hx hb d_DU_doSteps_0 rfl (lv_at hl 1 rfl) ?_
  refine lv_aload_n hx hb d_DU_doSteps_1 rfl (lv_at hl 0 rfl) ?_
  refine f_get (C := "DutyRules$Duty") (T := T_DU) (N := 9) hx hb (fun w q => hT w (s_DU w q)) hown hK hI g_X rfl 5 (by decide) (hT _ w_117) (fun _ q => q) rfl d_DU_doSteps_2 ?_
  refine lv_iconst (v := 0) hx hb d_DU_doSteps_5 (by decide) ?_
  refine f_ialdn (k := 0) (v := (nI g)) hx hb hI g_a1 (fT.ofK hK (t0 := 0) rfl) (by omega) (by omega) ((hK6 0 (by decide)).trans (by rw [hg]; rfl)) d_DU_doSteps_6 ?_
  refine lv_aload_n hx hb d_DU_doSteps_7 rfl (lv_at hl 0 rfl) ?_
  refine f_get (C := "DutyRules$Duty") (T := T_DU) (N := 9) hx hb (fun w q => hT w (s_DU w q)) hown hK hI g_X rfl 5 (by decide) (hT _ w_117) (fun _ q => q) rfl d_DU_doSteps_8 ?_
  refine lv_iconst (v := 1) hx hb d_DU_doSteps_11 (by decide) ?_
  refine f_ialdn (k := 1) (v := (nI st9)) hx hb hI g_a1 (fT.ofK hK (t0 := 0) rfl) (by omega) (by omega) ((hK6 1 (by decide)).trans (by rw [hst]; rfl)) d_DU_doSteps_12 ?_
  refine f_calli hI (f_runV C hI (k_rate l G h _ R ed rr rm hc g st9 (by omega) (by omega)) gm_RU_firstRate w_639 w_640 w_638 g_R rfl rfl rfl hl.1 rfl (Nat.le_of_ble_eq_true rfl) ⟨Nat.le_of_ble_eq_true rfl, Nat.le_of_ble_eq_true rfl⟩ d_DU_doSteps_13 ⟨Nat.le_of_ble_eq_true rfl, Nat.le_of_ble_eq_true rfl⟩) (fun r_1 h8 H9 locs hp9 hX9 hz9 hI => ?_)
  obtain ⟨rfl, e9⟩ := hp9
  rw [e9] at hI
  clear hX9 e9
  rw [hra]
  refine lv_istore_n (lv' := [(2, .int (nI ra)), (0, .ref X), (1, .ref R)]) hx hb d_DU_doSteps_16 rfl hl (by decide) rfl (fun ls hl => ?_)
  refine lv_aload_n hx hb d_DU_doSteps_17 rfl (lv_at hl 2 rfl) ?_
  refine lv_iload_n hx hb d_DU_doSteps_18 rfl (lv_at hl 0 rfl) ?_
  refine lv_iconst (v := 3) hx hb d_DU_doSteps_19 (by decide) ?_
  refine f_calli hI (f_runV C hI (k_number l G h _ R ed rr rm hc ra 3 (by omega) (by rw [hkr]; decide)) gm_RU_number w_490 w_491 w_650 g_R rfl rfl rfl hl.1 rfl (Nat.le_of_ble_eq_true rfl) ⟨Nat.le_of_ble_eq_true rfl, Nat.le_of_ble_eq_true rfl⟩ d_DU_doSteps_20 ⟨Nat.le_of_ble_eq_true rfl, Nat.le_of_ble_eq_true rfl⟩) (fun r_2 h8 H9 locs hp9 hX9 hz9 hI => ?_)
  obtain ⟨rfl, e9⟩ := hp9
  rw [e9] at hI
  clear hX9 e9
  refine f_asi (show nI (mV rr ed ra (3 + 1)) = nI (mV rr ed ra 4) from rfl) ?_
  refine lv_i2l (v := lN (mV rr ed ra 4)) hx hb d_DU_doSteps_23 (n_i2l (by omega)) ?_
  refine lv_lstore_n (lv' := [(3, .long (lN (mV rr ed ra 4))), (2, .int (nI ra)), (0, .ref X), (1, .ref R)]) hx hb d_DU_doSteps_24 rfl hl (by decide) rfl (fun ls hl => ?_)
  refine lv_aload_n hx hb d_DU_doSteps_25 rfl (lv_at hl 2 rfl) ?_
  refine lv_aload_n hx hb d_DU_doSteps_26 rfl (lv_at hl 2 rfl) ?_
  refine f_get (C := "DutyRules$Duty") (T := T_DU) (N := 9) hx hb (fun w q => hT w (s_DU w q)) hown hK hI g_X rfl 5 (by decide) (hT _ w_117) (fun _ q => q) rfl d_DU_doSteps_27 ?_
  refine lv_iconst (v := 2) hx hb d_DU_doSteps_30 (by decide) ?_
  refine f_ialdn (k := 2) (v := (nI li)) hx hb hI g_a1 (fT.ofK hK (t0 := 0) rfl) (by omega) (by omega) ((hK6 2 (by decide)).trans (by rw [hli]; rfl)) d_DU_doSteps_31 ?_
  refine lv_i2l (v := lN li) hx hb d_DU_doSteps_32 (n_i2l (by omega)) ?_
  refine lv_ldc2 (v := 100) hx hb hown (hT _ w_651) d_DU_doSteps_33 ?_
  refine lv_lmul hx hb d_DU_doSteps_36 ?_
  refine f_asl (lN_mul li 100) ?_
  refine lv_lload_n hx hb d_DU_doSteps_37 rfl (lv_at hl 0 rfl) ?_
  refine lv_lmul hx hb d_DU_doSteps_38 ?_
  refine f_asl (lN_mul (li * 100) (mV rr ed ra 4)) ?_
  refine lv_ldc2 (v := 10000) hx hb hown (hT _ w_652) d_DU_doSteps_39 ?_
  refine lv_lmul hx hb d_DU_doSteps_42 ?_
  refine f_asl (lN_mul ((li * 100) * (mV rr ed ra 4)) 10000) ?_
  refine f_asl (congrArg lN (m_sA li (mV rr ed ra 4))) ?_
  refine f_put (C := "DutyRules$Duty") (T := T_DU) (N := 9) (fs' := [.int lt, .int rs, .int 0, .long (lN (li * mV rr ed ra 4 * 1000000)), .long 0, .ref a1, .ref a2, .ref a3, .ref a4]) (v := .long (lN (li * mV rr ed ra 4 * 1000000))) hx hb (fun w q => hT w (s_DU w q)) t_DU k_DU n_DU hown hK hI g_X (by decide) rfl 3 (by decide) (hT _ w_113) (fun _ q => q) rfl rfl rfl (Nat.le_of_ble_eq_true rfl) rfl d_DU_doSteps_43 (fun H locs hI => ?_)
  generalize eh_3 : fU h X (13, ow, .inr (1, [.int lt, .int rs, .int 0, .long (lN (li * mV rr ed ra 4 * 1000000)), .long 0, .ref a1, .ref a2, .ref a3, .ref a4])) = h_3 at hI
  have hX := hX.set (e := .inr (1, [.int lt, .int rs, .int 0, .long (lN (li * mV rr ed ra 4 * 1000000)), .long 0, .ref a1, .ref a2, .ref a3, .ref a4])) g_X (by decide); rw [eh_3] at hX
  have hF := hF.set (e := .inr (1, [.int lt, .int rs, .int 0, .long (lN (li * mV rr ed ra 4 * 1000000)), .long 0, .ref a1, .ref a2, .ref a3, .ref a4])) g_X ⟨by decide, by decide, rfl⟩; rw [eh_3] at hF
  have g_a1 : h_3 a1 = some (14, ow, .inl ((G.2.1 0), 6, .inl hv)) := (congrFun eh_3 a1).symm.trans (fU_keep g_a1 (f_neR g_a1 g_X (by decide)))
  have g_a2 : h_3 a2 = some (15, ow, .inl ((G.2.1 0), 5, .inl (fun i => nI (sl i)))) := (congrFun eh_3 a2).symm.trans (fU_keep g_a2 (f_neR g_a2 g_X (by decide)))
  have g_a3 : h_3 a3 = some (16, ow, .inl ((G.2.1 0), 5, .inl (fun i => nI (sr i)))) := (congrFun eh_3 a3).symm.trans (fU_keep g_a3 (f_neR g_a3 g_X (by decide)))
  have g_a4 : h_3 a4 = some (17, ow, .inl ((G.2.1 1), 5, .inr (.inl (fun i => lN (sc i))))) := (congrFun eh_3 a4).symm.trans (fU_keep g_a4 (f_neR g_a4 g_X (by decide)))
  have g_R : h_3 R = some (7, 0, .inr (6, [.int (nI (rm ed)), .ref b1, .ref b2])) := (congrFun eh_3 R).symm.trans (fU_keep g_R (f_neR g_R g_X (by decide)))
  have g_X : h_3 X = some (13, ow, .inr (1, [.int lt, .int rs, .int 0, .long (lN (li * mV rr ed ra 4 * 1000000)), .long 0, .ref a1, .ref a2, .ref a3, .ref a4])) := (congrFun eh_3 X).symm.trans (fU_self _ _ _)
  refine lv_aload_n hx hb d_DU_doSteps_46 rfl (lv_at hl 2 rfl) ?_
  refine lv_iconst (v := 0) hx hb d_DU_doSteps_47 (by decide) ?_
  refine lv_iload_n hx hb d_DU_doSteps_48 rfl (lv_at hl 1 rfl) ?_
  have hzA := hI.2.2.2.1
  refine f_callv hI (f_runV C hI (c_DU_addStep l G h_3 _ X ow lt rs hv ([], 0, li * mV rr ed ra 4 * 1000000) ⟨a1, a2, a3, a4, sl, sr, sc, g_X, g_a1, g_a2, g_a3, g_a4, (show (0 : Nat) ≤ 5 by decide), fun i q hq => by simp at hq⟩ 0 ra (show (0 : Nat) < 5 by decide) (by show li * mV rr ed ra 4 * 1000000 < _; omega)) gm_DU_addStep w_655 p_DU_addStep w_653 g_X rfl rfl rfl hl.1 rfl (Nat.le_of_ble_eq_true rfl) ⟨Nat.le_of_ble_eq_true rfl, Nat.le_of_ble_eq_true rfl⟩ d_DU_doSteps_49 ⟨Nat.le_of_ble_eq_true rfl, Nat.le_of_ble_eq_true rfl⟩) (fun h9 H9 locs hp9 hX9 hz9 hI => ?_)
  obtain ⟨hD9, hF9⟩ := hp9
  have hX := fX.tr (Nat.le_trans (Nat.le_of_eq hsz.symm) hzA) hX hX9
  have hF := hF.tr hF9
  have hc9 := hc.keepD hF
  have g_X := hD9.choose_spec.choose_spec.choose_spec.choose_spec.choose_spec.choose_spec.choose_spec.1
  refine lv_aload_n hx hb d_DU_doSteps_52 rfl (lv_at hl 2 rfl) ?_
  refine lv_aload_n hx hb d_DU_doSteps_53 rfl (lv_at hl 3 rfl) ?_
  refine lv_lload_n hx hb d_DU_doSteps_54 rfl (lv_at hl 0 rfl) ?_
  have hD9 : cDu G h9 X ow lt rs hv (sA li (mV rr ed ra 4) ra) := hD9
  have hzA := hI.2.2.2.1
  refine f_callv hI (f_runV C hI (c_DU_freeLost l G h9 _ X ow lt rs hv (sA li (mV rr ed ra 4) ra) hD9 K hK6 R ed rr rm hc9 hok g li (mV rr ed ra 4) hg hli bg bli hpay bK (show (1 : Nat) ≤ 1 by decide) rfl rfl) gm_DU_freeLost w_660 p_DU_freeLost w_658 g_X rfl rfl rfl hl.1 rfl (Nat.le_of_ble_eq_true rfl) ⟨Nat.le_of_ble_eq_true rfl, Nat.le_of_ble_eq_true rfl⟩ d_DU_doSteps_55 ⟨Nat.le_of_ble_eq_true rfl, Nat.le_of_ble_eq_true rfl⟩) (fun h9 H9 locs hp9 hX9 hz9 hI => ?_)
  obtain ⟨hD9, hF9⟩ := hp9
  have hX := fX.tr (Nat.le_trans (Nat.le_of_eq hsz.symm) hzA) hX hX9
  have hF := hF.tr hF9
  have hc9 := hc.keepD hF
  have g_X := hD9.choose_spec.choose_spec.choose_spec.choose_spec.choose_spec.choose_spec.choose_spec.1
  refine lv_aload_n hx hb d_DU_doSteps_58 rfl (lv_at hl 2 rfl) ?_
  refine lv_aload_n hx hb d_DU_doSteps_59 rfl (lv_at hl 3 rfl) ?_
  refine lv_lload_n hx hb d_DU_doSteps_60 rfl (lv_at hl 0 rfl) ?_
  have hp2 := sB_post (li := li) (pay := mV rr ed ra 4) (lost := K 4) (loss := mF rr rm ed 2 g 0) (V := mV rr ed) (d := (sA li (mV rr ed ra 4) ra)) (Nat.le_refl 1) rfl rfl (fun r hr9 => (hok r (mF_k hr9).1).2.2.2.2.1 (mF_k hr9).2)
  have hzA := hI.2.2.2.1
  refine f_callv hI (f_runV C hI (c_DU_lessenByAway l G h9 _ X ow lt rs hv (sB li (mV rr ed ra 4) (K 4) (mF rr rm ed 2 g 0) (mV rr ed) (sA li (mV rr ed ra 4) ra)) hD9 K hK6 R ed rr rm hc9 hok g li (mV rr ed ra 4) hg hli bg bli hpay bK hp2.1 hp2.2.1 hp2.2.2) gm_DU_lessenByAway w_667 p_DU_lessenByAway w_665 g_X rfl rfl rfl hl.1 rfl (Nat.le_of_ble_eq_true rfl) ⟨Nat.le_of_ble_eq_true rfl, Nat.le_of_ble_eq_true rfl⟩ d_DU_doSteps_61 ⟨Nat.le_of_ble_eq_true rfl, Nat.le_of_ble_eq_true rfl⟩) (fun h9 H9 locs hp9 hX9 hz9 hI => ?_)
  obtain ⟨hD9, hF9⟩ := hp9
  have hX := fX.tr (Nat.le_trans (Nat.le_of_eq hsz.symm) hzA) hX hX9
  have hF := hF.tr hF9
  have hc9 := hc.keepD hF
  have g_X := hD9.choose_spec.choose_spec.choose_spec.choose_spec.choose_spec.choose_spec.choose_spec.1
  refine lv_aload_n hx hb d_DU_doSteps_64 rfl (lv_at hl 2 rfl) ?_
  refine lv_aload_n hx hb d_DU_doSteps_65 rfl (lv_at hl 3 rfl) ?_
  have hp3 := sC_post (gone := K 5) (away := mF rr rm ed 3 g 0) (V := mV rr ed) bli hpay hp2.1 hp2.2.1
  have hzA := hI.2.2.2.1
  refine f_callv hI (f_runV C hI (c_DU_lessenForSmall l G h9 _ X ow lt rs hv (sC li (mV rr ed ra 4) (K 5) (mF rr rm ed 3 g 0) (mV rr ed) (sB li (mV rr ed ra 4) (K 4) (mF rr rm ed 2 g 0) (mV rr ed) (sA li (mV rr ed ra 4) ra))) hD9 K hK6 R ed rr rm hc9 hok g hg bg bK hp3.1 hp3.2 hn3) gm_DU_lessenForSmall w_671 p_DU_lessenForSmall w_669 g_X rfl rfl rfl hl.1 rfl (Nat.le_of_ble_eq_true rfl) ⟨Nat.le_of_ble_eq_true rfl, Nat.le_of_ble_eq_true rfl⟩ d_DU_doSteps_66 ⟨Nat.le_of_ble_eq_true rfl, Nat.le_of_ble_eq_true rfl⟩) (fun h9 H9 locs hp9 hX9 hz9 hI => ?_)
  obtain ⟨hD9, hF9⟩ := hp9
  have hX := fX.tr (Nat.le_trans (Nat.le_of_eq hsz.symm) hzA) hX hX9
  have hF := hF.tr hF9
  have hc9 := hc.keepD hF
  have g_X := hD9.choose_spec.choose_spec.choose_spec.choose_spec.choose_spec.choose_spec.choose_spec.1
  refine lv_aload_n hx hb d_DU_doSteps_69 rfl (lv_at hl 2 rfl) ?_
  refine lv_aload_n hx hb d_DU_doSteps_70 rfl (lv_at hl 3 rfl) ?_
  have hp4 := sD_post (small := mF rr rm ed 1 g 0) (year := K 3) (V := mV rr ed) hp3.1 hp3.2 (fun r hr9 => ((hok r (mF_k hr9).1).2.2.2.1 (mF_k hr9).2).2)
  have hzA := hI.2.2.2.1
  refine f_callv hI (f_runV C hI (c_DU_roundToMultiple l G h9 _ X ow lt rs hv (sD (mF rr rm ed 1 g 0) (K 3) (mV rr ed) (sC li (mV rr ed ra 4) (K 5) (mF rr rm ed 3 g 0) (mV rr ed) (sB li (mV rr ed ra 4) (K 4) (mF rr rm ed 2 g 0) (mV rr ed) (sA li (mV rr ed ra 4) ra)))) hD9 K hK6 R ed rr rm hc9 hok hp4.1 hp4.2) gm_DU_roundToMultiple w_675 p_DU_roundToMultiple w_673 g_X rfl rfl rfl hl.1 rfl (Nat.le_of_ble_eq_true rfl) ⟨Nat.le_of_ble_eq_true rfl, Nat.le_of_ble_eq_true rfl⟩ d_DU_doSteps_71 ⟨Nat.le_of_ble_eq_true rfl, Nat.le_of_ble_eq_true rfl⟩) (fun h9 H9 locs hp9 hX9 hz9 hI => ?_)
  obtain ⟨hD9, hF9⟩ := hp9
  have hX := fX.tr (Nat.le_trans (Nat.le_of_eq hsz.symm) hzA) hX hX9
  have hF := hF.tr hF9
  have hc9 := hc.keepD hF
  have g_X := hD9.choose_spec.choose_spec.choose_spec.choose_spec.choose_spec.choose_spec.choose_spec.1
  exact f_vret C hr hI ⟨hD9, hF⟩ hX (Nat.le_refl _) (Nat.le_refl _) d_DU_doSteps_74
