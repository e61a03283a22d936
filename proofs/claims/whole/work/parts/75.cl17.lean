theorem gm_DR_read : gM y_DR_read b_DR_read 3 (some .int) 0 := ⟨w_303, w_1, ⟨by decide, by decide⟩, by decide +kernel⟩
set_option maxHeartbeats 4000000 in
set_option maxRecDepth 100000 in
/-- DR_read  -/
theorem c_DR_read (l : Launch) (G : gG) (h : fH) (sz : Nat) (X T E F D I R Wr : Nat) (wa : Int32) (nr lr : Option Nat) (g_X : h X = some (1, 0, .inr (0, [.ref T, .ref E, .ref F, .ref D, .ref I, .ref R, .ref Wr, .int wa, va_rf nr, va_rf lr]))) (mm tn : Nat) (tx : Nat → Nat) (hB : bS G h 2 3 0 T mm tn tx) (btn : tn ≤ 2000) (bmm : mm ≤ 4002) (hFm : fmS G h) (hD : dT G h) : cM l y_DR_read b_DR_read 3 (some .int) { frames := 9, cells := 320, slots := 11800, locals := 196 } G [.ref X] h sz (cQi G h sz (fun z h' => bS G h' 2 3 0 T mm 0 tx ∧ (((rd tx tn).1 = false ∧ z = (-1) - nI (rd tx tn).2.1 ∧ h' X = some (1, 0, .inr (0, [.ref T, .ref E, .ref F, .ref D, .ref I, .ref R, .ref Wr, .int wa, va_rf nr, va_rf lr])) ∧ fF (inR [1, 2, 3, 24, 25, 26, 28, 29, 30]) h h') ∨ ((rd tx tn).1 = true ∧ z = nI (rd tx tn).2.2.length ∧ fF (inR [1, 2, 3, 22, 24, 25, 26, 28, 29, 30, 31, 32]) h h' ∧ ∃ (R9 W9 : Nat) (kf2 nf2 : Nat → Nat), h' X = some (1, 0, .inr (0, [.ref T, .ref E, .ref F, .ref D, .ref I, .ref R9, .ref W9, .int wa, va_rf nr, va_rf lr])) ∧ rU G h' 7 8 9 R9 (rd tx tn).2.2.length kf2 nf2 ∧ rep4 kf2 nf2 (rd tx tn).2.2 ∧ sT G h' 22 23 0 W9 (fun j => (ot (rd tx tn).2.2).getD j 0) (ot (rd tx tn).2.2).length)))) := by
  refine f_start (by decide) (Nat.le_of_ble_eq_true rfl) ?_
  intro p e s m below meth c ls C hr hsz hI hl
  obtain ⟨hx, hb, hml, hown, hnm, hlk, hT, hG, hZ⟩ := id C
  have hK := hG.1
  have hX : fX h sz h := fX.rf
  have hl : lv_has ls 3 [(0, .ref X)] := hl
  have hF : fF (inR [1, 2, 3, 24, 25, 26, 28, 29, 30]) h h := fF.rf
  have hbw := wb_le (tx := tx) (Nat.zero_le tn)
  have hew := we_le (tx := tx) hbw.2
  have hzN := hI.2.2.2.1
  refine f_new (ci := 7) (C := "DutyRules$Words") (T := T_WO) (N := 4) (N2 := 4) (fs := [.null, .int 0, .int 0, .int 0]) hx hb (fun w q => hT w (s_WO w q)) t_WO k_WO hown (hT _ w_304) (hT _ w_305) (hT _ w_17) hK hI rfl (fun j hj => by rcases (show j = 0 ∨ j = 1 ∨ j = 2 ∨ j = 3 by omega) with rfl | rfl | rfl | rfl <;> rfl) 24 0 (by (try dsimp only); omega) (by (try dsimp only); omega) d_DR_read_0 (fun q_1 H eq_1 zq_1 nq_1 hI => ?_)
  generalize eh_2 : fU h q_1 (24, 0, .inr (7, [.null, .int 0, .int 0, .int 0])) = h_2 at hI
  have hX := hX.new (e := .inr (7, [.null, .int 0, .int 0, .int 0])) (r := 24) (o := 0) nq_1 (by omega); rw [eh_2] at hX
  have hF := hF.new (c := (24, 0, .inr (7, [.null, .int 0, .int 0, .int 0]))) nq_1; rw [eh_2] at hF
  have hW9 : fF (inR []) h h_2 := by rw [← eh_2]; exact fF.rf.new nq_1
  have hB := hB.keepF hW9 (by show ¬ _ ∈ _; decide) (by show ¬ _ ∈ _; decide)
  have g_X : h_2 X = some (1, 0, .inr (0, [.ref T, .ref E, .ref F, .ref D, .ref I, .ref R, .ref Wr, .int wa, va_rf nr, va_rf lr])) := (congrFun eh_2 X).symm.trans (fU_keep g_X (f_neN g_X nq_1))
  have g_q_1 : h_2 q_1 = some (24, 0, .inr (7, [.null, .int 0, .int 0, .int 0])) := (congrFun eh_2 q_1).symm.trans (fU_self _ _ _)
  refine lv_dup hx hb d_DR_read_3 rfl ?_
  refine lv_aload_n hx hb d_DR_read_4 rfl (lv_at hl 0 rfl) ?_
  refine f_get (C := "DutyRules") (T := T_DR) (N := 10) hx hb (fun w q => hT w (s_DR w q)) hown hK hI g_X rfl 0 (by decide) (hT _ w_163) (fun _ q => q) rfl d_DR_read_5 ?_
  obtain ⟨tb0, tm0, tf0, g_T, _⟩ := id hB
  have hzA := hI.2.2.2.1
  refine f_callq hI (f_runV C hI (c_SB_toString l G h_2 _ T 2 3 0 mm tn 26 27 0 tx (by decide) (by decide) (by decide) hB (by decide) (by decide) (by decide) (by decide) (by decide)) gm_SB_toString w_307 w_308 w_306 g_T rfl rfl rfl hl.1 rfl (Nat.le_of_ble_eq_true rfl) ⟨Nat.le_of_ble_eq_true rfl, Nat.le_of_ble_eq_true rfl⟩ d_DR_read_8 ⟨by first | exact Nat.le_of_ble_eq_true rfl | ((try dsimp only); omega), by first | exact Nat.le_of_ble_eq_true rfl | ((try dsimp only); omega)⟩) (fun r_3 h9 H9 locs hp9 hX9 hz9 hI => ?_)
  obtain ⟨s1, rfl, hs1, hF9⟩ := hp9
  have hX := fX.tr (Nat.le_trans (Nat.le_of_eq hsz.symm) hzA) hX hX9
  have g_X := hF9 _ _ _ _ g_X (by decide)
  have g_q_1 := hF9 _ _ _ _ g_q_1 (by decide)
  have hB := hB.keepF hF9 (by decide) (by decide)
  have hF := hF.tr (hF9.mono (fun r9 _ z => (by simp [inR] at z ⊢; omega : inR [1, 2, 3, 24, 25, 26, 28, 29, 30] r9 _)))
  have hzA := hI.2.2.2.1
  refine f_callv hI (f_runI C hI (c_WO_init l G h9 _ q_1 s1 24 tn 26 27 0 tx g_q_1 hs1 (by decide) (by decide) (by decide)) gm_WO_init w_361 rfl w_360 rfl hl.1 rfl (Nat.le_of_ble_eq_true rfl) ⟨Nat.le_of_ble_eq_true rfl, Nat.le_of_ble_eq_true rfl⟩ d_DR_read_11 ⟨by first | exact Nat.le_of_ble_eq_true rfl | ((try dsimp only); omega), by first | exact Nat.le_of_ble_eq_true rfl | ((try dsimp only); omega)⟩) (fun h9 H9 locs hp9 hX9 hz9 hI => ?_)
  obtain ⟨g_q_1, hF9⟩ := hp9
  have hX := fX.tr (Nat.le_trans (Nat.le_of_eq hsz.symm) hzA) hX hX9
  have g_X := hF9 _ _ _ _ g_X (by decide)
  have hB := hB.keepF hF9 (by decide) (by decide)
  have hs1 := hs1.keepF hF9 (by decide) (by decide)
  have hF := hF.tr (hF9.mono (fun r9 _ z => (by simp [inR] at z ⊢; omega : inR [1, 2, 3, 24, 25, 26, 28, 29, 30] r9 _)))
  refine lv_astore_n (lv' := [(1, .ref q_1), (0, .ref X)]) hx hb d_DR_read_14 rfl hl (by decide) rfl (fun ls hl => ?_)
  have hzN := hI.2.2.2.1
  refine f_new (ci := 6) (C := "DutyRules$Rules") (T := T_RU) (N := 3) (N2 := 3) (fs := [.int 0, .null, .null]) hx hb (fun w q => hT w (s_RU w q)) t_RU k_RU hown (hT _ w_144) (hT _ w_145) (hT _ w_9) hK hI rfl (fun j hj => by rcases (show j = 0 ∨ j = 1 ∨ j = 2 by omega) with rfl | rfl | rfl <;> rfl) 28 0 (by (try dsimp only); omega) (by (try dsimp only); omega) d_DR_read_15 (fun q_5 H eq_5 zq_5 nq_5 hI => ?_)
  generalize eh_6 : fU h9 q_5 (28, 0, .inr (6, [.int 0, .null, .null])) = h_6 at hI
  have hX := hX.new (e := .inr (6, [.int 0, .null, .null])) (r := 28) (o := 0) nq_5 (by omega); rw [eh_6] at hX
  have hF := hF.new (c := (28, 0, .inr (6, [.int 0, .null, .null]))) nq_5; rw [eh_6] at hF
  have hW9 : fF (inR []) h9 h_6 := by rw [← eh_6]; exact fF.rf.new nq_5
  have hB := hB.keepF hW9 (by show ¬ _ ∈ _; decide) (by show ¬ _ ∈ _; decide)
  have hs1 := hs1.keepF hW9 (by show ¬ _ ∈ _; decide) (by show ¬ _ ∈ _; decide)
  have g_X : h_6 X = some (1, 0, .inr (0, [.ref T, .ref E, .ref F, .ref D, .ref I, .ref R, .ref Wr, .int wa, va_rf nr, va_rf lr])) := (congrFun eh_6 X).symm.trans (fU_keep g_X (f_neN g_X nq_5))
  have g_q_1 : h_6 q_1 = some (24, 0, .inr (7, [.ref s1, .int (nI (wb tx tn 0)), .int (nI (we tx tn (wb tx tn 0))), .int 0])) := (congrFun eh_6 q_1).symm.trans (fU_keep g_q_1 (f_neN g_q_1 nq_5))
  have g_q_5 : h_6 q_5 = some (28, 0, .inr (6, [.int 0, .null, .null])) := (congrFun eh_6 q_5).symm.trans (fU_self _ _ _)
  refine lv_dup hx hb d_DR_read_18 rfl ?_
  have hzA := hI.2.2.2.1
  refine f_callv hI (f_runI C hI (c_RU_init l G h_6 _ q_5 g_q_5) gm_RU_init w_147 rfl w_146 rfl hl.1 rfl (Nat.le_of_ble_eq_true rfl) ⟨Nat.le_of_ble_eq_true rfl, Nat.le_of_ble_eq_true rfl⟩ d_DR_read_19 ⟨by first | exact Nat.le_of_ble_eq_true rfl | ((try dsimp only); omega), by first | exact Nat.le_of_ble_eq_true rfl | ((try dsimp only); omega)⟩) (fun h9 H9 locs hp9 hX9 hz9 hI => ?_)
  obtain ⟨hRu, hF9⟩ := hp9
  have hX := fX.tr (Nat.le_trans (Nat.le_of_eq hsz.symm) hzA) hX hX9
  have g_X := hF9 _ _ _ _ g_X (by decide)
  have g_q_1 := hF9 _ _ _ _ g_q_1 (by decide)
  have hB := hB.keepF hF9 (by decide) (by decide)
  have hs1 := hs1.keepF hF9 (by decide) (by decide)
  have hF := hF.tr (hF9.mono (fun r9 _ z => (by simp [inR] at z ⊢; omega : inR [1, 2, 3, 24, 25, 26, 28, 29, 30] r9 _)))
  obtain ⟨tb0, tm0, tf0, g_T, _⟩ := id hB
  refine lv_astore_n (lv' := [(2, .ref q_5), (1, .ref q_1), (0, .ref X)]) hx hb d_DR_read_22 rfl hl (by decide) rfl (fun ls hl => ?_)
  refine lv_aload_n hx hb d_DR_read_23 rfl (lv_at hl 2 rfl) ?_
  refine f_get (C := "DutyRules") (T := T_DR) (N := 10) hx hb (fun w q => hT w (s_DR w q)) hown hK hI g_X rfl 0 (by decide) (hT _ w_163) (fun _ q => q) rfl d_DR_read_24 ?_
  refine lv_iconst (v := 0) hx hb d_DR_read_27 (by decide) ?_
  have hzA := hI.2.2.2.1
  refine f_callv hI (f_runV C hI (c_SB_setLength l G h9 _ T 2 3 0 mm tn tx (by decide) (by decide) (by decide) hB) gm_SB_setLength w_409 w_410 w_408 g_T rfl rfl rfl hl.1 rfl (Nat.le_of_ble_eq_true rfl) ⟨Nat.le_of_ble_eq_true rfl, Nat.le_of_ble_eq_true rfl⟩ d_DR_read_28 ⟨by first | exact Nat.le_of_ble_eq_true rfl | ((try dsimp only); omega), by first | exact Nat.le_of_ble_eq_true rfl | ((try dsimp only); omega)⟩) (fun h9 H9 locs hp9 hX9 hz9 hI => ?_)
  obtain ⟨hB, hF9⟩ := hp9
  have hX := fX.tr (Nat.le_trans (Nat.le_of_eq hsz.symm) hzA) hX hX9
  have g_X := hF9 _ _ _ _ g_X (by decide)
  have g_q_1 := hF9 _ _ _ _ g_q_1 (by decide)
  have hRu := hRu.keepF hF9 (by decide) (by decide) (by decide)
  have hs1 := hs1.keepF hF9 (by decide) (by decide)
  have hF := hF.tr (hF9.mono (fun r9 _ z => (by simp [inR] at z ⊢; omega : inR [1, 2, 3, 24, 25, 26, 28, 29, 30] r9 _)))
  refine lv_aload_n hx hb d_DR_read_31 rfl (lv_at hl 0 rfl) ?_
  refine lv_aload_n hx hb d_DR_read_32 rfl (lv_at hl 1 rfl) ?_
  have hzA := hI.2.2.2.1
  refine f_calli hI (f_runS C hI (c_GR_fill l G h9 _ q_1 s1 (wb tx tn 0) (we tx tn (wb tx tn 0)) 0 tn tx g_q_1 hs1 (hFm.keepX hX) hew.1 hew.2 (we_lt (Nat.zero_le tn)) q_5 (fun _ => 0) (fun _ => 0) hRu) gm_GR_fill w_429 w_428 rfl hl.1 rfl (Nat.le_of_ble_eq_true rfl) ⟨Nat.le_of_ble_eq_true rfl, Nat.le_of_ble_eq_true rfl⟩ d_DR_read_33 ⟨by first | exact Nat.le_of_ble_eq_true rfl | ((try dsimp only); omega), by first | exact Nat.le_of_ble_eq_true rfl | ((try dsimp only); omega)⟩) (fun r_9 h9 H9 locs hp9 hX9 hz9 hI => ?_)
  obtain ⟨ok, w2, b2, e2, L2, kf2, nf2, c2, hrd, rfl, g_q_1, hRu, hok, hF9⟩ := hp9
  have hrd : rd tx tn = (ok, w2, L2) := hrd
  have hX := fX.tr (Nat.le_trans (Nat.le_of_eq hsz.symm) hzA) hX hX9
  have g_X := hF9 _ _ _ _ g_X (by decide)
  have hB := hB.keepF hF9 (by decide) (by decide)
  have hF := hF.tr (hF9.mono (fun r9 _ z => (by simp [inR] at z ⊢; omega : inR [1, 2, 3, 24, 25, 26, 28, 29, 30] r9 _)))
  rcases ok with _ | _
  · refine f_asi (show (if false = true then (1 : Int32) else 0) = 0 from rfl) ?_
    refine lv_if_ne (tgt := 46) hx hb d_DR_read_36 (by decide) (fun c_10 => absurd (by decide) c_10) (fun c_10 => ?_)
    refine lv_iconst (v := (-1)) hx hb d_DR_read_39 (by decide) ?_
    refine lv_aload_n hx hb d_DR_read_40 rfl (lv_at hl 1 rfl) ?_
    refine f_getN (C := "DutyRules$Words") (T := T_WO) (N := 4) hx hb (fun w q => hT w (s_WO w q)) hown hK hI g_q_1 rfl 3 (by decide) (hG.2.1 _ w_398) (fun _ q => q) rfl d_DR_read_41 ?_
    refine lv_isub hx hb d_DR_read_44 ?_
    exact f_iret C hr (hI.view (reR_V _)) ⟨(hB.keepF (reR_F _) (by decide) (by decide)), Or.inl (by rw [hrd]; exact ⟨rfl, rfl, ((reR_F _) _ _ _ _ g_X (by decide)), (hF.tr ((reR_F _).mono (fun r9 _ z => (by simp [inR] at z ⊢; omega : inR [1, 2, 3, 24, 25, 26, 28, 29, 30] r9 _))))⟩)⟩ (hX.view (reR_V _)) (by (try dsimp only); omega) (by (try dsimp only); omega) d_DR_read_45
  · refine f_asi (show (if true = true then (1 : Int32) else 0) = 1 from rfl) ?_
    obtain ⟨hc2, hrep2⟩ := hok rfl
    rw [hc2] at hRu
    refine lv_if_ne (tgt := 46) hx hb d_DR_read_36 (by decide) (fun c_11 => ?_) (fun c_11 => absurd c_11 (by decide))
    refine lv_aload_n hx hb d_DR_read_46 rfl (lv_at hl 2 rfl) ?_
    refine lv_aload_n hx hb d_DR_read_47 rfl (lv_at hl 0 rfl) ?_
    refine f_put (C := "DutyRules") (T := T_DR) (N := 10) (fs' := [.ref T, .ref E, .ref F, .ref D, .ref I, .ref q_5, .ref Wr, .int wa, va_rf nr, va_rf lr]) (v := .ref q_5) hx hb (fun w q => hT w (s_DR w q)) t_DR k_DR n_DR hown hK hI g_X (by decide) rfl 5 (by decide) (hT _ w_168) (fun _ q => q) rfl rfl rfl (Nat.le_of_ble_eq_true rfl) rfl d_DR_read_48 (fun H locs hI => ?_)
    generalize eh_12 : fU h9 X (1, 0, .inr (0, [.ref T, .ref E, .ref F, .ref D, .ref I, .ref q_5, .ref Wr, .int wa, va_rf nr, va_rf lr])) = h_12 at hI
    have hX := hX.set (e := .inr (0, [.ref T, .ref E, .ref F, .ref D, .ref I, .ref q_5, .ref Wr, .int wa, va_rf nr, va_rf lr])) g_X (by decide); rw [eh_12] at hX
    have hF := hF.set (e := .inr (0, [.ref T, .ref E, .ref F, .ref D, .ref I, .ref q_5, .ref Wr, .int wa, va_rf nr, va_rf lr])) g_X (by decide); rw [eh_12] at hF
    have g_q_1 : h_12 q_1 = some (24, 0, .inr (7, [.ref s1, .int (nI b2), .int (nI e2), .int (nI w2)])) := (congrFun eh_12 q_1).symm.trans (fU_keep g_q_1 (f_neR g_q_1 g_X (by decide)))
    have hW9 : fF (inR [1]) h9 h_12 := by rw [← eh_12]; exact fF.rf.set g_X (by show _ ∈ _; decide)
    have hB := hB.keepF hW9 (by show ¬ _ ∈ _; decide) (by show ¬ _ ∈ _; decide)
    have hRu := hRu.keepF hW9 (by decide) (by decide) (by decide)
    have g_X : h_12 X = some (1, 0, .inr (0, [.ref T, .ref E, .ref F, .ref D, .ref I, .ref q_5, .ref Wr, .int wa, va_rf nr, va_rf lr])) := (congrFun eh_12 X).symm.trans (fU_self _ _ _)
    refine lv_aload_n hx hb d_DR_read_51 rfl (lv_at hl 2 rfl) ?_
    refine lv_aload_n hx hb d_DR_read_52 rfl (lv_at hl 0 rfl) ?_
    have hzA := hI.2.2.2.1
    refine f_callq hI (f_runS C hI (c_GR_asText l G h_12 _ q_5 L2 kf2 nf2 hRu hrep2 (hFm.keepX hX) (hD.keepX hX)) gm_GR_asText w_495 w_494 rfl hl.1 rfl (Nat.le_of_ble_eq_true rfl) ⟨Nat.le_of_ble_eq_true rfl, Nat.le_of_ble_eq_true rfl⟩ d_DR_read_53 ⟨by first | exact Nat.le_of_ble_eq_true rfl | ((try dsimp only); omega), by first | exact Nat.le_of_ble_eq_true rfl | ((try dsimp only); omega)⟩) (fun r_13 h9 H9 locs hp9 hX9 hz9 hI => ?_)
    obtain ⟨W9, rfl, hW9s, hF9⟩ := hp9
    have hF := hF.mono (S' := inR [1, 2, 3, 22, 24, 25, 26, 28, 29, 30, 31, 32]) (fun r9 o9 z => (by simp [inR] at z ⊢; omega : inR [1, 2, 3, 22, 24, 25, 26, 28, 29, 30, 31, 32] r9 o9))
    have hX := fX.tr (Nat.le_trans (Nat.le_of_eq hsz.symm) hzA) hX hX9
    have g_X := hF9 _ _ _ _ g_X (by decide)
    have hB := hB.keepF hF9 (by decide) (by decide)
    have hRu := hRu.keepF hF9 (by decide) (by decide) (by decide)
    have hF := hF.tr (hF9.mono (fun r9 _ z => (by simp [inR] at z ⊢; omega : inR [1, 2, 3, 22, 24, 25, 26, 28, 29, 30, 31, 32] r9 _)))
    obtain ⟨ra1, ra2, g_R, _⟩ := id hRu
    refine f_put (C := "DutyRules") (T := T_DR) (N := 10) (fs' := [.ref T, .ref E, .ref F, .ref D, .ref I, .ref q_5, .ref W9, .int wa, va_rf nr, va_rf lr]) (v := .ref W9) hx hb (fun w q => hT w (s_DR w q)) t_DR k_DR n_DR hown hK hI g_X (by decide) rfl 6 (by decide) (hT _ w_169) (fun _ q => q) rfl rfl rfl (Nat.le_of_ble_eq_true rfl) rfl d_DR_read_56 (fun H locs hI => ?_)
    generalize eh_14 : fU h9 X (1, 0, .inr (0, [.ref T, .ref E, .ref F, .ref D, .ref I, .ref q_5, .ref W9, .int wa, va_rf nr, va_rf lr])) = h_14 at hI
    have hX := hX.set (e := .inr (0, [.ref T, .ref E, .ref F, .ref D, .ref I, .ref q_5, .ref W9, .int wa, va_rf nr, va_rf lr])) g_X (by decide); rw [eh_14] at hX
    have hF := hF.set (e := .inr (0, [.ref T, .ref E, .ref F, .ref D, .ref I, .ref q_5, .ref W9, .int wa, va_rf nr, va_rf lr])) g_X (by decide); rw [eh_14] at hF
    have g_R : h_14 q_5 = some (28, 0, .inr (6, [.int (nI L2.length), .ref ra1, .ref ra2])) := (congrFun eh_14 q_5).symm.trans (fU_keep g_R (f_neR g_R g_X (by decide)))
    have hW9 : fF (inR [1]) h9 h_14 := by rw [← eh_14]; exact fF.rf.set g_X (by show _ ∈ _; decide)
    have hB := hB.keepF hW9 (by show ¬ _ ∈ _; decide) (by show ¬ _ ∈ _; decide)
    have hRu := hRu.keepF hW9 (by decide) (by decide) (by decide)
    have hW9s := hW9s.keepF hW9 (by show ¬ _ ∈ _; decide) (by show ¬ _ ∈ _; decide)
    have g_X : h_14 X = some (1, 0, .inr (0, [.ref T, .ref E, .ref F, .ref D, .ref I, .ref q_5, .ref W9, .int wa, va_rf nr, va_rf lr])) := (congrFun eh_14 X).symm.trans (fU_self _ _ _)
    refine lv_aload_n hx hb d_DR_read_59 rfl (lv_at hl 0 rfl) ?_
    refine f_getN (C := "DutyRules$Rules") (T := T_RU) (N := 3) hx hb (fun w q => hT w (s_RU w q)) hown hK hI g_R rfl 0 (by decide) (hG.2.1 _ w_151) (fun _ q => q) rfl d_DR_read_60 ?_
    exact f_iret C hr (hI.view (reR_V _)) ⟨(hB.keepF (reR_F _) (by decide) (by decide)), Or.inr (by rw [hrd]; exact ⟨rfl, rfl, (hF.tr ((reR_F _).mono (fun r9 _ z => (by simp [inR] at z ⊢; omega : inR [1, 2, 3, 22, 24, 25, 26, 28, 29, 30, 31, 32] r9 _)))), q_5, W9, kf2, nf2, ((reR_F _) _ _ _ _ g_X (by decide)), reR_U hRu, hrep2, hW9s.keepF (reR_F _) (by decide) (by decide)⟩)⟩ (hX.view (reR_V _)) (by (try dsimp only); omega) (by (try dsimp only); omega) d_DR_read_63
