/-- cells that stay -/
def mI (h : fH) (L : List (Nat × fC)) : Prop := ∀ q ∈ L, h q.1 = some q.2 ∧ q.2.1 ≠ 40
theorem mI.keepS {h h1 : fH} {L : List (Nat × fC)} (H : mI h L) (hF : fF (inR [40]) h h1) : mI h1 L := fun q hq => ⟨hF _ _ _ _ (H q hq).1 (fun z => (H q hq).2 (List.mem_singleton.mp z)), (H q hq).2⟩
theorem mI.keep0 {h h1 : fH} {L : List (Nat × fC)} (H : mI h L) (hF : fF (inR []) h h1) : mI h1 L := fun q hq => ⟨hF _ _ _ _ (H q hq).1 (fun z => absurd z List.not_mem_nil), (H q hq).2⟩
theorem mI.add {h : fH} {L : List (Nat × fC)} {a : Nat} {c : fC} (H : mI h L) (ha : h a = some c) (hc : c.1 ≠ 40) : mI h ((a, c) :: L) := fun q hq => by
  rcases List.mem_cons.mp hq with e | e
  · rw [e]; exact ⟨ha, hc⟩
  · exact H q e
theorem gm_MO_init : gM y_MO_init b_MO_init 1 none 0 := ⟨w_806, w_10, ⟨by decide, by decide⟩, by decide +kernel⟩
set_option maxHeartbeats 4000000 in
set_option maxRecDepth 100000 in
/-- MO_init  -/
theorem c_MO_init (l : Launch) (G : gG) (h : fH) (sz : Nat) (x : Nat) (mf : Nat → Value) (g_x : h x = some (40, 0, .inr (8, mo mf))) (v_1 : mf 1 = .int 0) (v_6 : mf 6 = .int 0) (v_12 : mf 12 = .int 0) (v_13 : mf 13 = .long 0) (v_14 : mf 14 = .int 0) (v_18 : mf 18 = .int 0) (v_19 : mf 19 = .long 0) (v_20 : mf 20 = .long 0) (v_22 : mf 22 = .int 0) (v_23 : mf 23 = .int 0) (v_30 : mf 30 = .int 0) : cM l y_MO_init b_MO_init 1 none { frames := 1, cells := 22, slots := 189103, locals := 20 } G [.ref x] h sz (cQv G h sz (fun h' => ∃ mf', h' x = some (40, 0, .inr (8, mo mf')) ∧ mTx G h' mf' 0 (fun _ => 0) ∧ mRd G h' mf' (fun _ => 0) ∧ mEd G h' mf' 0 (fun _ => 0) (fun _ => 0) (fun _ => 0) ∧ mFc G h' mf' 0 (fun _ => 0) (fun _ => 0) (fun _ => 0) (fun _ => 0) (fun _ => 0) ∧ mf' 13 = .long (lN 0) ∧ mS0 G h' mf' ∧ mSh G h' mf' (-1) 0 [] ∧ mRt G h' mf' (fun _ => 0) (fun _ => 0) (fun _ => 0) 0 (fun _ => 0) (fun _ => 0) (fun _ => 0) ∧ fF (inR [40]) h h')) := by
  refine f_start (by decide) (Nat.le_of_ble_eq_true rfl) ?_
  intro p e s m below meth c ls C hr hsz hI hl
  obtain ⟨hx, hb, hml, hown, hnm, hlk, hT, hG, hZ⟩ := id C
  have hK := hG.1
  have hX : fX h sz h := fX.rf
  have hl : lv_has ls 1 [(0, .ref x)] := hl
  have hF : fF (inR [40]) h h := fF.rf
  have hL : mI h [] := fun q hq => absurd hq List.not_mem_nil
  refine lv_aload_n hx hb d_MO_init_0 rfl (lv_at hl 0 rfl) ?_
  refine W.objInit hx hb hown (hT _ w_807) (hT _ w_28) (hT _ w_29) rfl (by rw [hml]; exact hl.1) rfl d_MO_init_1 (Nat.le_of_ble_eq_true rfl) (Nat.le_of_ble_eq_true rfl) ?_
  refine W.eq (g2 := F0 m 4 ls []) rfl ?_
  refine lv_aload_n hx hb d_MO_init_4 rfl (lv_at hl 0 rfl) ?_
  refine lv_sipush (v := 2000) hx hb d_MO_init_5 (by decide) ?_
  have hzN := hI.2.2.2.1
  refine f_newa (atype := .int) (a0 := (2000, .inl (fun _ => 0))) (cA := (G.2.1 0)) hx hb (hT _ w_81) rfl hI (hK.2 0 _ rfl).2 rfl (by decide) rfl (by decide) 41 0 (Nat.le_of_ble_eq_true rfl) (Nat.le_of_ble_eq_true rfl) d_MO_init_8 (fun q_1 H eq_1 zq_1 nq_1 hI => ?_)
  generalize eh_2 : fU h q_1 (41, 0, .inl ((G.2.1 0), 2000, .inl (fun _ => 0))) = h_2 at hI
  have hX := hX.new (e := .inl ((G.2.1 0), 2000, .inl (fun _ => 0))) (r := 41) (o := 0) nq_1 (by omega); rw [eh_2] at hX
  have hF := hF.new (c := (41, 0, .inl ((G.2.1 0), 2000, .inl (fun _ => 0)))) nq_1; rw [eh_2] at hF
  have hW9 : fF (inR []) h h_2 := by rw [← eh_2]; exact fF.rf.new nq_1
  have hL := hL.keep0 hW9
  have g_x : h_2 x = some (40, 0, .inr (8, mo mf)) := (congrFun eh_2 x).symm.trans (fU_keep g_x (f_neN g_x nq_1))
  have g_q_1 : h_2 q_1 = some (41, 0, .inl ((G.2.1 0), 2000, .inl (fun _ => 0))) := (congrFun eh_2 q_1).symm.trans (fU_self _ _ _)
  refine f_putF (C := "DutyRulesModel") (T := T_MO) (N := 40) (fs' := mo (va_up mf 0 (.ref q_1))) (v := .ref q_1) hx hb (fun w q => hT w (s_MO w q)) t_MO k_MO n_MO hown hK hI g_x (by decide) rfl 0 (by decide) (hT _ w_809) (fun _ q => q) rfl hnm rfl rfl rfl (by rw [mo_len]; decide) (mo_set _) d_MO_init_10 (fun H locs hI => ?_)
  generalize emf_3 : va_up mf 0 (.ref q_1) = mf_3 at hI
  have v_1 : mf_3 1 = .int 0 := (congrFun emf_3 1).symm.trans ((va_up_ne _ _ (by decide)).trans v_1)
  have v_6 : mf_3 6 = .int 0 := (congrFun emf_3 6).symm.trans ((va_up_ne _ _ (by decide)).trans v_6)
  have v_12 : mf_3 12 = .int 0 := (congrFun emf_3 12).symm.trans ((va_up_ne _ _ (by decide)).trans v_12)
  have v_13 : mf_3 13 = .long 0 := (congrFun emf_3 13).symm.trans ((va_up_ne _ _ (by decide)).trans v_13)
  have v_14 : mf_3 14 = .int 0 := (congrFun emf_3 14).symm.trans ((va_up_ne _ _ (by decide)).trans v_14)
  have v_18 : mf_3 18 = .int 0 := (congrFun emf_3 18).symm.trans ((va_up_ne _ _ (by decide)).trans v_18)
  have v_19 : mf_3 19 = .long 0 := (congrFun emf_3 19).symm.trans ((va_up_ne _ _ (by decide)).trans v_19)
  have v_20 : mf_3 20 = .long 0 := (congrFun emf_3 20).symm.trans ((va_up_ne _ _ (by decide)).trans v_20)
  have v_22 : mf_3 22 = .int 0 := (congrFun emf_3 22).symm.trans ((va_up_ne _ _ (by decide)).trans v_22)
  have v_23 : mf_3 23 = .int 0 := (congrFun emf_3 23).symm.trans ((va_up_ne _ _ (by decide)).trans v_23)
  have v_30 : mf_3 30 = .int 0 := (congrFun emf_3 30).symm.trans ((va_up_ne _ _ (by decide)).trans v_30)
  have v_0 : mf_3 0 = .ref q_1 := (congrFun emf_3 0).symm.trans (va_up_self _ _ _)
  generalize eh_4 : fU h_2 x (40, 0, .inr (8, mo mf_3)) = h_4 at hI
  have hX := hX.set (e := .inr (8, mo mf_3)) g_x (by decide); rw [eh_4] at hX
  have hF := hF.set (e := .inr (8, mo mf_3)) g_x (by decide); rw [eh_4] at hF
  have g_q_1 : h_4 q_1 = some (41, 0, .inl ((G.2.1 0), 2000, .inl (fun _ => 0))) := (congrFun eh_4 q_1).symm.trans (fU_keep g_q_1 (f_neR g_q_1 g_x (by decide)))
  have hW9 : fF (inR [40]) h_2 h_4 := by rw [← eh_4]; exact fF.rf.set g_x (by show _ ∈ _; decide)
  have hL := hL.keepS hW9
  have g_x : h_4 x = some (40, 0, .inr (8, mo mf_3)) := (congrFun eh_4 x).symm.trans (fU_self _ _ _)
  have hL := mI.add hL g_q_1 (show (41 : Nat) ≠ 40 by decide)
  clear g_q_1
  refine lv_aload_n hx hb d_MO_init_13 rfl (lv_at hl 0 rfl) ?_
  refine lv_sipush (v := 200) hx hb d_MO_init_14 (by decide) ?_
  have hzN := hI.2.2.2.1
  refine f_newa (atype := .int) (a0 := (200, .inl (fun _ => 0))) (cA := (G.2.1 0)) hx hb (hT _ w_81) rfl hI (hK.2 0 _ rfl).2 rfl (by decide) rfl (by decide) 43 0 (Nat.le_of_ble_eq_true rfl) (Nat.le_of_ble_eq_true rfl) d_MO_init_17 (fun q_5 H eq_5 zq_5 nq_5 hI => ?_)
  generalize eh_6 : fU h_4 q_5 (43, 0, .inl ((G.2.1 0), 200, .inl (fun _ => 0))) = h_6 at hI
  have hX := hX.new (e := .inl ((G.2.1 0), 200, .inl (fun _ => 0))) (r := 43) (o := 0) nq_5 (by omega); rw [eh_6] at hX
  have hF := hF.new (c := (43, 0, .inl ((G.2.1 0), 200, .inl (fun _ => 0)))) nq_5; rw [eh_6] at hF
  have hW9 : fF (inR []) h_4 h_6 := by rw [← eh_6]; exact fF.rf.new nq_5
  have hL := hL.keep0 hW9
  have g_x : h_6 x = some (40, 0, .inr (8, mo mf_3)) := (congrFun eh_6 x).symm.trans (fU_keep g_x (f_neN g_x nq_5))
  have g_q_5 : h_6 q_5 = some (43, 0, .inl ((G.2.1 0), 200, .inl (fun _ => 0))) := (congrFun eh_6 q_5).symm.trans (fU_self _ _ _)
  refine f_putF (C := "DutyRulesModel") (T := T_MO) (N := 40) (fs' := mo (va_up mf_3 2 (.ref q_5))) (v := .ref q_5) hx hb (fun w q => hT w (s_MO w q)) t_MO k_MO n_MO hown hK hI g_x (by decide) rfl 2 (by decide) (hT _ w_811) (fun _ q => q) rfl hnm rfl rfl rfl (by rw [mo_len]; decide) (mo_set _) d_MO_init_19 (fun H locs hI => ?_)
  generalize emf_7 : va_up mf_3 2 (.ref q_5) = mf_7 at hI
  have v_0 : mf_7 0 = .ref q_1 := (congrFun emf_7 0).symm.trans ((va_up_ne _ _ (by decide)).trans v_0)
  have v_1 : mf_7 1 = .int 0 := (congrFun emf_7 1).symm.trans ((va_up_ne _ _ (by decide)).trans v_1)
  have v_6 : mf_7 6 = .int 0 := (congrFun emf_7 6).symm.trans ((va_up_ne _ _ (by decide)).trans v_6)
  have v_12 : mf_7 12 = .int 0 := (congrFun emf_7 12).symm.trans ((va_up_ne _ _ (by decide)).trans v_12)
  have v_13 : mf_7 13 = .long 0 := (congrFun emf_7 13).symm.trans ((va_up_ne _ _ (by decide)).trans v_13)
  have v_14 : mf_7 14 = .int 0 := (congrFun emf_7 14).symm.trans ((va_up_ne _ _ (by decide)).trans v_14)
  have v_18 : mf_7 18 = .int 0 := (congrFun emf_7 18).symm.trans ((va_up_ne _ _ (by decide)).trans v_18)
  have v_19 : mf_7 19 = .long 0 := (congrFun emf_7 19).symm.trans ((va_up_ne _ _ (by decide)).trans v_19)
  have v_20 : mf_7 20 = .long 0 := (congrFun emf_7 20).symm.trans ((va_up_ne _ _ (by decide)).trans v_20)
  have v_22 : mf_7 22 = .int 0 := (congrFun emf_7 22).symm.trans ((va_up_ne _ _ (by decide)).trans v_22)
  have v_23 : mf_7 23 = .int 0 := (congrFun emf_7 23).symm.trans ((va_up_ne _ _ (by decide)).trans v_23)
  have v_30 : mf_7 30 = .int 0 := (congrFun emf_7 30).symm.trans ((va_up_ne _ _ (by decide)).trans v_30)
  have v_2 : mf_7 2 = .ref q_5 := (congrFun emf_7 2).symm.trans (va_up_self _ _ _)
  generalize eh_8 : fU h_6 x (40, 0, .inr (8, mo mf_7)) = h_8 at hI
  have hX := hX.set (e := .inr (8, mo mf_7)) g_x (by decide); rw [eh_8] at hX
  have hF := hF.set (e := .inr (8, mo mf_7)) g_x (by decide); rw [eh_8] at hF
  have g_q_5 : h_8 q_5 = some (43, 0, .inl ((G.2.1 0), 200, .inl (fun _ => 0))) := (congrFun eh_8 q_5).symm.trans (fU_keep g_q_5 (f_neR g_q_5 g_x (by decide)))
  have hW9 : fF (inR [40]) h_6 h_8 := by rw [← eh_8]; exact fF.rf.set g_x (by show _ ∈ _; decide)
  have hL := hL.keepS hW9
  have g_x : h_8 x = some (40, 0, .inr (8, mo mf_7)) := (congrFun eh_8 x).symm.trans (fU_self _ _ _)
  have hL := mI.add hL g_q_5 (show (43 : Nat) ≠ 40 by decide)
  clear g_q_5
  refine lv_aload_n hx hb d_MO_init_22 rfl (lv_at hl 0 rfl) ?_
  refine lv_sipush (v := 2200) hx hb d_MO_init_23 (by decide) ?_
  have hzN := hI.2.2.2.1
  refine f_newa (atype := .int) (a0 := (2200, .inl (fun _ => 0))) (cA := (G.2.1 0)) hx hb (hT _ w_81) rfl hI (hK.2 0 _ rfl).2 rfl (by decide) rfl (by decide) 44 0 (Nat.le_of_ble_eq_true rfl) (Nat.le_of_ble_eq_true rfl) d_MO_init_26 (fun q_9 H eq_9 zq_9 nq_9 hI => ?_)
  generalize eh_10 : fU h_8 q_9 (44, 0, .inl ((G.2.1 0), 2200, .inl (fun _ => 0))) = h_10 at hI
  have hX := hX.new (e := .inl ((G.2.1 0), 2200, .inl (fun _ => 0))) (r := 44) (o := 0) nq_9 (by omega); rw [eh_10] at hX
  have hF := hF.new (c := (44, 0, .inl ((G.2.1 0), 2200, .inl (fun _ => 0)))) nq_9; rw [eh_10] at hF
  have hW9 : fF (inR []) h_8 h_10 := by rw [← eh_10]; exact fF.rf.new nq_9
  have hL := hL.keep0 hW9
  have g_x : h_10 x = some (40, 0, .inr (8, mo mf_7)) := (congrFun eh_10 x).symm.trans (fU_keep g_x (f_neN g_x nq_9))
  have g_q_9 : h_10 q_9 = some (44, 0, .inl ((G.2.1 0), 2200, .inl (fun _ => 0))) := (congrFun eh_10 q_9).symm.trans (fU_self _ _ _)
  refine f_putF (C := "DutyRulesModel") (T := T_MO) (N := 40) (fs' := mo (va_up mf_7 3 (.ref q_9))) (v := .ref q_9) hx hb (fun w q => hT w (s_MO w q)) t_MO k_MO n_MO hown hK hI g_x (by decide) rfl 3 (by decide) (hT _ w_812) (fun _ q => q) rfl hnm rfl rfl rfl (by rw [mo_len]; decide) (mo_set _) d_MO_init_28 (fun H locs hI => ?_)
  generalize emf_11 : va_up mf_7 3 (.ref q_9) = mf_11 at hI
  have v_0 : mf_11 0 = .ref q_1 := (congrFun emf_11 0).symm.trans ((va_up_ne _ _ (by decide)).trans v_0)
  have v_1 : mf_11 1 = .int 0 := (congrFun emf_11 1).symm.trans ((va_up_ne _ _ (by decide)).trans v_1)
  have v_2 : mf_11 2 = .ref q_5 := (congrFun emf_11 2).symm.trans ((va_up_ne _ _ (by decide)).trans v_2)
  have v_6 : mf_11 6 = .int 0 := (congrFun emf_11 6).symm.trans ((va_up_ne _ _ (by decide)).trans v_6)
  have v_12 : mf_11 12 = .int 0 := (congrFun emf_11 12).symm.trans ((va_up_ne _ _ (by decide)).trans v_12)
  have v_13 : mf_11 13 = .long 0 := (congrFun emf_11 13).symm.trans ((va_up_ne _ _ (by decide)).trans v_13)
  have v_14 : mf_11 14 = .int 0 := (congrFun emf_11 14).symm.trans ((va_up_ne _ _ (by decide)).trans v_14)
  have v_18 : mf_11 18 = .int 0 := (congrFun emf_11 18).symm.trans ((va_up_ne _ _ (by decide)).trans v_18)
  have v_19 : mf_11 19 = .long 0 := (congrFun emf_11 19).symm.trans ((va_up_ne _ _ (by decide)).trans v_19)
  have v_20 : mf_11 20 = .long 0 := (congrFun emf_11 20).symm.trans ((va_up_ne _ _ (by decide)).trans v_20)
  have v_22 : mf_11 22 = .int 0 := (congrFun emf_11 22).symm.trans ((va_up_ne _ _ (by decide)).trans v_22)
  have v_23 : mf_11 23 = .int 0 := (congrFun emf_11 23).symm.trans ((va_up_ne _ _ (by decide)).trans v_23)
  have v_30 : mf_11 30 = .int 0 := (congrFun emf_11 30).symm.trans ((va_up_ne _ _ (by decide)).trans v_30)
  have v_3 : mf_11 3 = .ref q_9 := (congrFun emf_11 3).symm.trans (va_up_self _ _ _)
  generalize eh_12 : fU h_10 x (40, 0, .inr (8, mo mf_11)) = h_12 at hI
  have hX := hX.set (e := .inr (8, mo mf_11)) g_x (by decide); rw [eh_12] at hX
  have hF := hF.set (e := .inr (8, mo mf_11)) g_x (by decide); rw [eh_12] at hF
  have g_q_9 : h_12 q_9 = some (44, 0, .inl ((G.2.1 0), 2200, .inl (fun _ => 0))) := (congrFun eh_12 q_9).symm.trans (fU_keep g_q_9 (f_neR g_q_9 g_x (by decide)))
  have hW9 : fF (inR [40]) h_10 h_12 := by rw [← eh_12]; exact fF.rf.set g_x (by show _ ∈ _; decide)
  have hL := hL.keepS hW9
  have g_x : h_12 x = some (40, 0, .inr (8, mo mf_11)) := (congrFun eh_12 x).symm.trans (fU_self _ _ _)
  have hL := mI.add hL g_q_9 (show (44 : Nat) ≠ 40 by decide)
  clear g_q_9
  refine lv_aload_n hx hb d_MO_init_31 rfl (lv_at hl 0 rfl) ?_
  refine lv_bipush (v := 11) hx hb d_MO_init_32 (by decide) ?_
  have hzN := hI.2.2.2.1
  refine f_newa (atype := .int) (a0 := (11, .inl (fun _ => 0))) (cA := (G.2.1 0)) hx hb (hT _ w_81) rfl hI (hK.2 0 _ rfl).2 rfl (by decide) rfl (by decide) 45 0 (Nat.le_of_ble_eq_true rfl) (Nat.le_of_ble_eq_true rfl) d_MO_init_34 (fun q_13 H eq_13 zq_13 nq_13 hI => ?_)
  generalize eh_14 : fU h_12 q_13 (45, 0, .inl ((G.2.1 0), 11, .inl (fun _ => 0))) = h_14 at hI
  have hX := hX.new (e := .inl ((G.2.1 0), 11, .inl (fun _ => 0))) (r := 45) (o := 0) nq_13 (by omega); rw [eh_14] at hX
  have hF := hF.new (c := (45, 0, .inl ((G.2.1 0), 11, .inl (fun _ => 0)))) nq_13; rw [eh_14] at hF
  have hW9 : fF (inR []) h_12 h_14 := by rw [← eh_14]; exact fF.rf.new nq_13
  have hL := hL.keep0 hW9
  have g_x : h_14 x = some (40, 0, .inr (8, mo mf_11)) := (congrFun eh_14 x).symm.trans (fU_keep g_x (f_neN g_x nq_13))
  have g_q_13 : h_14 q_13 = some (45, 0, .inl ((G.2.1 0), 11, .inl (fun _ => 0))) := (congrFun eh_14 q_13).symm.trans (fU_self _ _ _)
  refine f_putF (C := "DutyRulesModel") (T := T_MO) (N := 40) (fs' := mo (va_up mf_11 4 (.ref q_13))) (v := .ref q_13) hx hb (fun w q => hT w (s_MO w q)) t_MO k_MO n_MO hown hK hI g_x (by decide) rfl 4 (by decide) (hT _ w_813) (fun _ q => q) rfl hnm rfl rfl rfl (by rw [mo_len]; decide) (mo_set _) d_MO_init_36 (fun H locs hI => ?_)
  generalize emf_15 : va_up mf_11 4 (.ref q_13) = mf_15 at hI
  have v_0 : mf_15 0 = .ref q_1 := (congrFun emf_15 0).symm.trans ((va_up_ne _ _ (by decide)).trans v_0)
  have v_1 : mf_15 1 = .int 0 := (congrFun emf_15 1).symm.trans ((va_up_ne _ _ (by decide)).trans v_1)
  have v_2 : mf_15 2 = .ref q_5 := (congrFun emf_15 2).symm.trans ((va_up_ne _ _ (by decide)).trans v_2)
  have v_3 : mf_15 3 = .ref q_9 := (congrFun emf_15 3).symm.trans ((va_up_ne _ _ (by decide)).trans v_3)
  have v_6 : mf_15 6 = .int 0 := (congrFun emf_15 6).symm.trans ((va_up_ne _ _ (by decide)).trans v_6)
  have v_12 : mf_15 12 = .int 0 := (congrFun emf_15 12).symm.trans ((va_up_ne _ _ (by decide)).trans v_12)
  have v_13 : mf_15 13 = .long 0 := (congrFun emf_15 13).symm.trans ((va_up_ne _ _ (by decide)).trans v_13)
  have v_14 : mf_15 14 = .int 0 := (congrFun emf_15 14).symm.trans ((va_up_ne _ _ (by decide)).trans v_14)
  have v_18 : mf_15 18 = .int 0 := (congrFun emf_15 18).symm.trans ((va_up_ne _ _ (by decide)).trans v_18)
  have v_19 : mf_15 19 = .long 0 := (congrFun emf_15 19).symm.trans ((va_up_ne _ _ (by decide)).trans v_19)
  have v_20 : mf_15 20 = .long 0 := (congrFun emf_15 20).symm.trans ((va_up_ne _ _ (by decide)).trans v_20)
  have v_22 : mf_15 22 = .int 0 := (congrFun emf_15 22).symm.trans ((va_up_ne _ _ (by decide)).trans v_22)
  have v_23 : mf_15 23 = .int 0 := (congrFun emf_15 23).symm.trans ((va_up_ne _ _ (by decide)).trans v_23)
  have v_30 : mf_15 30 = .int 0 := (congrFun emf_15 30).symm.trans ((va_up_ne _ _ (by decide)).trans v_30)
  have v_4 : mf_15 4 = .ref q_13 := (congrFun emf_15 4).symm.trans (va_up_self _ _ _)
  generalize eh_16 : fU h_14 x (40, 0, .inr (8, mo mf_15)) = h_16 at hI
  have hX := hX.set (e := .inr (8, mo mf_15)) g_x (by decide); rw [eh_16] at hX
  have hF := hF.set (e := .inr (8, mo mf_15)) g_x (by decide); rw [eh_16] at hF
  have g_q_13 : h_16 q_13 = some (45, 0, .inl ((G.2.1 0), 11, .inl (fun _ => 0))) := (congrFun eh_16 q_13).symm.trans (fU_keep g_q_13 (f_neR g_q_13 g_x (by decide)))
  have hW9 : fF (inR [40]) h_14 h_16 := by rw [← eh_16]; exact fF.rf.set g_x (by show _ ∈ _; decide)
  have hL := hL.keepS hW9
  have g_x : h_16 x = some (40, 0, .inr (8, mo mf_15)) := (congrFun eh_16 x).symm.trans (fU_self _ _ _)
  have hL := mI.add hL g_q_13 (show (45 : Nat) ≠ 40 by decide)
  clear g_q_13
  refine lv_aload_n hx hb d_MO_init_39 rfl (lv_at hl 0 rfl) ?_
  refine lv_bipush (v := 11) hx hb d_MO_init_40 (by decide) ?_
  have hzN := hI.2.2.2.1
  refine f_newa (atype := .long) (a0 := (11, .inr (.inl (fun _ => 0)))) (cA := (G.2.1 1)) hx hb (hT _ w_143) rfl hI (hK.2 1 _ rfl).2 rfl (by decide) rfl (by decide) 46 0 (Nat.le_of_ble_eq_true rfl) (Nat.le_of_ble_eq_true rfl) d_MO_init_42 (fun q_17 H eq_17 zq_17 nq_17 hI => ?_)
  generalize eh_18 : fU h_16 q_17 (46, 0, .inl ((G.2.1 1), 11, .inr (.inl (fun _ => 0)))) = h_18 at hI
  have hX := hX.new (e := .inl ((G.2.1 1), 11, .inr (.inl (fun _ => 0)))) (r := 46) (o := 0) nq_17 (by omega); rw [eh_18] at hX
  have hF := hF.new (c := (46, 0, .inl ((G.2.1 1), 11, .inr (.inl (fun _ => 0))))) nq_17; rw [eh_18] at hF
  have hW9 : fF (inR []) h_16 h_18 := by rw [← eh_18]; exact fF.rf.new nq_17
  have hL := hL.keep0 hW9
  have g_x : h_18 x = some (40, 0, .inr (8, mo mf_15)) := (congrFun eh_18 x).symm.trans (fU_keep g_x (f_neN g_x nq_17))
  have g_q_17 : h_18 q_17 = some (46, 0, .inl ((G.2.1 1), 11, .inr (.inl (fun _ => 0)))) := (congrFun eh_18 q_17).symm.trans (fU_self _ _ _)
  refine f_putF (C := "DutyRulesModel") (T := T_MO) (N := 40) (fs' := mo (va_up mf_15 5 (.ref q_17))) (v := .ref q_17) hx hb (fun w q => hT w (s_MO w q)) t_MO k_MO n_MO hown hK hI g_x (by decide) rfl 5 (by decide) (hT _ w_814) (fun _ q => q) rfl hnm rfl rfl rfl (by rw [mo_len]; decide) (mo_set _) d_MO_init_44 (fun H locs hI => ?_)
  generalize emf_19 : va_up mf_15 5 (.ref q_17) = mf_19 at hI
  have v_0 : mf_19 0 = .ref q_1 := (congrFun emf_19 0).symm.trans ((va_up_ne _ _ (by decide)).trans v_0)
  have v_1 : mf_19 1 = .int 0 := (congrFun emf_19 1).symm.trans ((va_up_ne _ _ (by decide)).trans v_1)
  have v_2 : mf_19 2 = .ref q_5 := (congrFun emf_19 2).symm.trans ((va_up_ne _ _ (by decide)).trans v_2)
  have v_3 : mf_19 3 = .ref q_9 := (congrFun emf_19 3).symm.trans ((va_up_ne _ _ (by decide)).trans v_3)
  have v_4 : mf_19 4 = .ref q_13 := (congrFun emf_19 4).symm.trans ((va_up_ne _ _ (by decide)).trans v_4)
  have v_6 : mf_19 6 = .int 0 := (congrFun emf_19 6).symm.trans ((va_up_ne _ _ (by decide)).trans v_6)
  have v_12 : mf_19 12 = .int 0 := (congrFun emf_19 12).symm.trans ((va_up_ne _ _ (by decide)).trans v_12)
  have v_13 : mf_19 13 = .long 0 := (congrFun emf_19 13).symm.trans ((va_up_ne _ _ (by decide)).trans v_13)
  have v_14 : mf_19 14 = .int 0 := (congrFun emf_19 14).symm.trans ((va_up_ne _ _ (by decide)).trans v_14)
  have v_18 : mf_19 18 = .int 0 := (congrFun emf_19 18).symm.trans ((va_up_ne _ _ (by decide)).trans v_18)
  have v_19 : mf_19 19 = .long 0 := (congrFun emf_19 19).symm.trans ((va_up_ne _ _ (by decide)).trans v_19)
  have v_20 : mf_19 20 = .long 0 := (congrFun emf_19 20).symm.trans ((va_up_ne _ _ (by decide)).trans v_20)
  have v_22 : mf_19 22 = .int 0 := (congrFun emf_19 22).symm.trans ((va_up_ne _ _ (by decide)).trans v_22)
  have v_23 : mf_19 23 = .int 0 := (congrFun emf_19 23).symm.trans ((va_up_ne _ _ (by decide)).trans v_23)
  have v_30 : mf_19 30 = .int 0 := (congrFun emf_19 30).symm.trans ((va_up_ne _ _ (by decide)).trans v_30)
  have v_5 : mf_19 5 = .ref q_17 := (congrFun emf_19 5).symm.trans (va_up_self _ _ _)
  generalize eh_20 : fU h_18 x (40, 0, .inr (8, mo mf_19)) = h_20 at hI
  have hX := hX.set (e := .inr (8, mo mf_19)) g_x (by decide); rw [eh_20] at hX
  have hF := hF.set (e := .inr (8, mo mf_19)) g_x (by decide); rw [eh_20] at hF
  have g_q_17 : h_20 q_17 = some (46, 0, .inl ((G.2.1 1), 11, .inr (.inl (fun _ => 0)))) := (congrFun eh_20 q_17).symm.trans (fU_keep g_q_17 (f_neR g_q_17 g_x (by decide)))
  have hW9 : fF (inR [40]) h_18 h_20 := by rw [← eh_20]; exact fF.rf.set g_x (by show _ ∈ _; decide)
  have hL := hL.keepS hW9
  have g_x : h_20 x = some (40, 0, .inr (8, mo mf_19)) := (congrFun eh_20 x).symm.trans (fU_self _ _ _)
  have hL := mI.add hL g_q_17 (show (46 : Nat) ≠ 40 by decide)
  clear g_q_17
  refine lv_aload_n hx hb d_MO_init_47 rfl (lv_at hl 0 rfl) ?_
  refine lv_sipush (v := 300) hx hb d_MO_init_48 (by decide) ?_
  have hzN := hI.2.2.2.1
  refine f_newa (atype := .int) (a0 := (300, .inl (fun _ => 0))) (cA := (G.2.1 0)) hx hb (hT _ w_81) rfl hI (hK.2 0 _ rfl).2 rfl (by decide) rfl (by decide) 48 0 (Nat.le_of_ble_eq_true rfl) (Nat.le_of_ble_eq_true rfl) d_MO_init_51 (fun q_21 H eq_21 zq_21 nq_21 hI => ?_)
  generalize eh_22 : fU h_20 q_21 (48, 0, .inl ((G.2.1 0), 300, .inl (fun _ => 0))) = h_22 at hI
  have hX := hX.new (e := .inl ((G.2.1 0), 300, .inl (fun _ => 0))) (r := 48) (o := 0) nq_21 (by omega); rw [eh_22] at hX
  have hF := hF.new (c := (48, 0, .inl ((G.2.1 0), 300, .inl (fun _ => 0)))) nq_21; rw [eh_22] at hF
  have hW9 : fF (inR []) h_20 h_22 := by rw [← eh_22]; exact fF.rf.new nq_21
  have hL := hL.keep0 hW9
  have g_x : h_22 x = some (40, 0, .inr (8, mo mf_19)) := (congrFun eh_22 x).symm.trans (fU_keep g_x (f_neN g_x nq_21))
  have g_q_21 : h_22 q_21 = some (48, 0, .inl ((G.2.1 0), 300, .inl (fun _ => 0))) := (congrFun eh_22 q_21).symm.trans (fU_self _ _ _)
  refine f_putF (C := "DutyRulesModel") (T := T_MO) (N := 40) (fs' := mo (va_up mf_19 7 (.ref q_21))) (v := .ref q_21) hx hb (fun w q => hT w (s_MO w q)) t_MO k_MO n_MO hown hK hI g_x (by decide) rfl 7 (by decide) (hT _ w_816) (fun _ q => q) rfl hnm rfl rfl rfl (by rw [mo_len]; decide) (mo_set _) d_MO_init_53 (fun H locs hI => ?_)
  generalize emf_23 : va_up mf_19 7 (.ref q_21) = mf_23 at hI
  have v_0 : mf_23 0 = .ref q_1 := (congrFun emf_23 0).symm.trans ((va_up_ne _ _ (by decide)).trans v_0)
  have v_1 : mf_23 1 = .int 0 := (congrFun emf_23 1).symm.trans ((va_up_ne _ _ (by decide)).trans v_1)
  have v_2 : mf_23 2 = .ref q_5 := (congrFun emf_23 2).symm.trans ((va_up_ne _ _ (by decide)).trans v_2)
  have v_3 : mf_23 3 = .ref q_9 := (congrFun emf_23 3).symm.trans ((va_up_ne _ _ (by decide)).trans v_3)
  have v_4 : mf_23 4 = .ref q_13 := (congrFun emf_23 4).symm.trans ((va_up_ne _ _ (by decide)).trans v_4)
  have v_5 : mf_23 5 = .ref q_17 := (congrFun emf_23 5).symm.trans ((va_up_ne _ _ (by decide)).trans v_5)
  have v_6 : mf_23 6 = .int 0 := (congrFun emf_23 6).symm.trans ((va_up_ne _ _ (by decide)).trans v_6)
  have v_12 : mf_23 12 = .int 0 := (congrFun emf_23 12).symm.trans ((va_up_ne _ _ (by decide)).trans v_12)
  have v_13 : mf_23 13 = .long 0 := (congrFun emf_23 13).symm.trans ((va_up_ne _ _ (by decide)).trans v_13)
  have v_14 : mf_23 14 = .int 0 := (congrFun emf_23 14).symm.trans ((va_up_ne _ _ (by decide)).trans v_14)
  have v_18 : mf_23 18 = .int 0 := (congrFun emf_23 18).symm.trans ((va_up_ne _ _ (by decide)).trans v_18)
  have v_19 : mf_23 19 = .long 0 := (congrFun emf_23 19).symm.trans ((va_up_ne _ _ (by decide)).trans v_19)
  have v_20 : mf_23 20 = .long 0 := (congrFun emf_23 20).symm.trans ((va_up_ne _ _ (by decide)).trans v_20)
  have v_22 : mf_23 22 = .int 0 := (congrFun emf_23 22).symm.trans ((va_up_ne _ _ (by decide)).trans v_22)
  have v_23 : mf_23 23 = .int 0 := (congrFun emf_23 23).symm.trans ((va_up_ne _ _ (by decide)).trans v_23)
  have v_30 : mf_23 30 = .int 0 := (congrFun emf_23 30).symm.trans ((va_up_ne _ _ (by decide)).trans v_30)
  have v_7 : mf_23 7 = .ref q_21 := (congrFun emf_23 7).symm.trans (va_up_self _ _ _)
  generalize eh_24 : fU h_22 x (40, 0, .inr (8, mo mf_23)) = h_24 at hI
  have hX := hX.set (e := .inr (8, mo mf_23)) g_x (by decide); rw [eh_24] at hX
  have hF := hF.set (e := .inr (8, mo mf_23)) g_x (by decide); rw [eh_24] at hF
  have g_q_21 : h_24 q_21 = some (48, 0, .inl ((G.2.1 0), 300, .inl (fun _ => 0))) := (congrFun eh_24 q_21).symm.trans (fU_keep g_q_21 (f_neR g_q_21 g_x (by decide)))
  have hW9 : fF (inR [40]) h_22 h_24 := by rw [← eh_24]; exact fF.rf.set g_x (by show _ ∈ _; decide)
  have hL := hL.keepS hW9
  have g_x : h_24 x = some (40, 0, .inr (8, mo mf_23)) := (congrFun eh_24 x).symm.trans (fU_self _ _ _)
  have hL := mI.add hL g_q_21 (show (48 : Nat) ≠ 40 by decide)
  clear g_q_21
  refine lv_aload_n hx hb d_MO_init_56 rfl (lv_at hl 0 rfl) ?_
  refine lv_sipush (v := 300) hx hb d_MO_init_57 (by decide) ?_
  have hzN := hI.2.2.2.1
  refine f_newa (atype := .int) (a0 := (300, .inl (fun _ => 0))) (cA := (G.2.1 0)) hx hb (hT _ w_81) rfl hI (hK.2 0 _ rfl).2 rfl (by decide) rfl (by decide) 49 0 (Nat.le_of_ble_eq_true rfl) (Nat.le_of_ble_eq_true rfl) d_MO_init_60 (fun q_25 H eq_25 zq_25 nq_25 hI => ?_)
  generalize eh_26 : fU h_24 q_25 (49, 0, .inl ((G.2.1 0), 300, .inl (fun _ => 0))) = h_26 at hI
  have hX := hX.new (e := .inl ((G.2.1 0), 300, .inl (fun _ => 0))) (r := 49) (o := 0) nq_25 (by omega); rw [eh_26] at hX
  have hF := hF.new (c := (49, 0, .inl ((G.2.1 0), 300, .inl (fun _ => 0)))) nq_25; rw [eh_26] at hF
  have hW9 : fF (inR []) h_24 h_26 := by rw [← eh_26]; exact fF.rf.new nq_25
  have hL := hL.keep0 hW9
  have g_x : h_26 x = some (40, 0, .inr (8, mo mf_23)) := (congrFun eh_26 x).symm.trans (fU_keep g_x (f_neN g_x nq_25))
  have g_q_25 : h_26 q_25 = some (49, 0, .inl ((G.2.1 0), 300, .inl (fun _ => 0))) := (congrFun eh_26 q_25).symm.trans (fU_self _ _ _)
  refine f_putF (C := "DutyRulesModel") (T := T_MO) (N := 40) (fs' := mo (va_up mf_23 8 (.ref q_25))) (v := .ref q_25) hx hb (fun w q => hT w (s_MO w q)) t_MO k_MO n_MO hown hK hI g_x (by decide) rfl 8 (by decide) (hT _ w_817) (fun _ q => q) rfl hnm rfl rfl rfl (by rw [mo_len]; decide) (mo_set _) d_MO_init_62 (fun H locs hI => ?_)
  generalize emf_27 : va_up mf_23 8 (.ref q_25) = mf_27 at hI
  have v_0 : mf_27 0 = .ref q_1 := (congrFun emf_27 0).symm.trans ((va_up_ne _ _ (by decide)).trans v_0)
  have v_1 : mf_27 1 = .int 0 := (congrFun emf_27 1).symm.trans ((va_up_ne _ _ (by decide)).trans v_1)
  have v_2 : mf_27 2 = .ref q_5 := (congrFun emf_27 2).symm.trans ((va_up_ne _ _ (by decide)).trans v_2)
  have v_3 : mf_27 3 = .ref q_9 := (congrFun emf_27 3).symm.trans ((va_up_ne _ _ (by decide)).trans v_3)
  have v_4 : mf_27 4 = .ref q_13 := (congrFun emf_27 4).symm.trans ((va_up_ne _ _ (by decide)).trans v_4)
  have v_5 : mf_27 5 = .ref q_17 := (congrFun emf_27 5).symm.trans ((va_up_ne _ _ (by decide)).trans v_5)
  have v_6 : mf_27 6 = .int 0 := (congrFun emf_27 6).symm.trans ((va_up_ne _ _ (by decide)).trans v_6)
  have v_7 : mf_27 7 = .ref q_21 := (congrFun emf_27 7).symm.trans ((va_up_ne _ _ (by decide)).trans v_7)
  have v_12 : mf_27 12 = .int 0 := (congrFun emf_27 12).symm.trans ((va_up_ne _ _ (by decide)).trans v_12)
  have v_13 : mf_27 13 = .long 0 := (congrFun emf_27 13).symm.trans ((va_up_ne _ _ (by decide)).trans v_13)
  have v_14 : mf_27 14 = .int 0 := (congrFun emf_27 14).symm.trans ((va_up_ne _ _ (by decide)).trans v_14)
  have v_18 : mf_27 18 = .int 0 := (congrFun emf_27 18).symm.trans ((va_up_ne _ _ (by decide)).trans v_18)
  have v_19 : mf_27 19 = .long 0 := (congrFun emf_27 19).symm.trans ((va_up_ne _ _ (by decide)).trans v_19)
  have v_20 : mf_27 20 = .long 0 := (congrFun emf_27 20).symm.trans ((va_up_ne _ _ (by decide)).trans v_20)
  have v_22 : mf_27 22 = .int 0 := (congrFun emf_27 22).symm.trans ((va_up_ne _ _ (by decide)).trans v_22)
  have v_23 : mf_27 23 = .int 0 := (congrFun emf_27 23).symm.trans ((va_up_ne _ _ (by decide)).trans v_23)
  have v_30 : mf_27 30 = .int 0 := (congrFun emf_27 30).symm.trans ((va_up_ne _ _ (by decide)).trans v_30)
  have v_8 : mf_27 8 = .ref q_25 := (congrFun emf_27 8).symm.trans (va_up_self _ _ _)
  generalize eh_28 : fU h_26 x (40, 0, .inr (8, mo mf_27)) = h_28 at hI
  have hX := hX.set (e := .inr (8, mo mf_27)) g_x (by decide); rw [eh_28] at hX
  have hF := hF.set (e := .inr (8, mo mf_27)) g_x (by decide); rw [eh_28] at hF
  have g_q_25 : h_28 q_25 = some (49, 0, .inl ((G.2.1 0), 300, .inl (fun _ => 0))) := (congrFun eh_28 q_25).symm.trans (fU_keep g_q_25 (f_neR g_q_25 g_x (by decide)))
  have hW9 : fF (inR [40]) h_26 h_28 := by rw [← eh_28]; exact fF.rf.set g_x (by show _ ∈ _; decide)
  have hL := hL.keepS hW9
  have g_x : h_28 x = some (40, 0, .inr (8, mo mf_27)) := (congrFun eh_28 x).symm.trans (fU_self _ _ _)
  have hL := mI.add hL g_q_25 (show (49 : Nat) ≠ 40 by decide)
  clear g_q_25
  refine lv_aload_n hx hb d_MO_init_65 rfl (lv_at hl 0 rfl) ?_
  refine lv_sipush (v := 300) hx hb d_MO_init_66 (by decide) ?_
  have hzN := hI.2.2.2.1
  refine f_newa (atype := .long) (a0 := (300, .inr (.inl (fun _ => 0)))) (cA := (G.2.1 1)) hx hb (hT _ w_143) rfl hI (hK.2 1 _ rfl).2 rfl (by decide) rfl (by decide) 50 0 (Nat.le_of_ble_eq_true rfl) (Nat.le_of_ble_eq_true rfl) d_MO_init_69 (fun q_29 H eq_29 zq_29 nq_29 hI => ?_)
  generalize eh_30 : fU h_28 q_29 (50, 0, .inl ((G.2.1 1), 300, .inr (.inl (fun _ => 0)))) = h_30 at hI
  have hX := hX.new (e := .inl ((G.2.1 1), 300, .inr (.inl (fun _ => 0)))) (r := 50) (o := 0) nq_29 (by omega); rw [eh_30] at hX
  have hF := hF.new (c := (50, 0, .inl ((G.2.1 1), 300, .inr (.inl (fun _ => 0))))) nq_29; rw [eh_30] at hF
  have hW9 : fF (inR []) h_28 h_30 := by rw [← eh_30]; exact fF.rf.new nq_29
  have hL := hL.keep0 hW9
  have g_x : h_30 x = some (40, 0, .inr (8, mo mf_27)) := (congrFun eh_30 x).symm.trans (fU_keep g_x (f_neN g_x nq_29))
  have g_q_29 : h_30 q_29 = some (50, 0, .inl ((G.2.1 1), 300, .inr (.inl (fun _ => 0)))) := (congrFun eh_30 q_29).symm.trans (fU_self _ _ _)
  refine f_putF (C := "DutyRulesModel") (T := T_MO) (N := 40) (fs' := mo (va_up mf_27 9 (.ref q_29))) (v := .ref q_29) hx hb (fun w q => hT w (s_MO w q)) t_MO k_MO n_MO hown hK hI g_x (by decide) rfl 9 (by decide) (hT _ w_818) (fun _ q => q) rfl hnm rfl rfl rfl (by rw [mo_len]; decide) (mo_set _) d_MO_init_71 (fun H locs hI => ?_)
  generalize emf_31 : va_up mf_27 9 (.ref q_29) = mf_31 at hI
  have v_0 : mf_31 0 = .ref q_1 := (congrFun emf_31 0).symm.trans ((va_up_ne _ _ (by decide)).trans v_0)
  have v_1 : mf_31 1 = .int 0 := (congrFun emf_31 1).symm.trans ((va_up_ne _ _ (by decide)).trans v_1)
  have v_2 : mf_31 2 = .ref q_5 := (congrFun emf_31 2).symm.trans ((va_up_ne _ _ (by decide)).trans v_2)
  have v_3 : mf_31 3 = .ref q_9 := (congrFun emf_31 3).symm.trans ((va_up_ne _ _ (by decide)).trans v_3)
  have v_4 : mf_31 4 = .ref q_13 := (congrFun emf_31 4).symm.trans ((va_up_ne _ _ (by decide)).trans v_4)
  have v_5 : mf_31 5 = .ref q_17 := (congrFun emf_31 5).symm.trans ((va_up_ne _ _ (by decide)).trans v_5)
  have v_6 : mf_31 6 = .int 0 := (congrFun emf_31 6).symm.trans ((va_up_ne _ _ (by decide)).trans v_6)
  have v_7 : mf_31 7 = .ref q_21 := (congrFun emf_31 7).symm.trans ((va_up_ne _ _ (by decide)).trans v_7)
  have v_8 : mf_31 8 = .ref q_25 := (congrFun emf_31 8).symm.trans ((va_up_ne _ _ (by decide)).trans v_8)
  have v_12 : mf_31 12 = .int 0 := (congrFun emf_31 12).symm.trans ((va_up_ne _ _ (by decide)).trans v_12)
  have v_13 : mf_31 13 = .long 0 := (congrFun emf_31 13).symm.trans ((va_up_ne _ _ (by decide)).trans v_13)
  have v_14 : mf_31 14 = .int 0 := (congrFun emf_31 14).symm.trans ((va_up_ne _ _ (by decide)).trans v_14)
  have v_18 : mf_31 18 = .int 0 := (congrFun emf_31 18).symm.trans ((va_up_ne _ _ (by decide)).trans v_18)
  have v_19 : mf_31 19 = .long 0 := (congrFun emf_31 19).symm.trans ((va_up_ne _ _ (by decide)).trans v_19)
  have v_20 : mf_31 20 = .long 0 := (congrFun emf_31 20).symm.trans ((va_up_ne _ _ (by decide)).trans v_20)
  have v_22 : mf_31 22 = .int 0 := (congrFun emf_31 22).symm.trans ((va_up_ne _ _ (by decide)).trans v_22)
  have v_23 : mf_31 23 = .int 0 := (congrFun emf_31 23).symm.trans ((va_up_ne _ _ (by decide)).trans v_23)
  have v_30 : mf_31 30 = .int 0 := (congrFun emf_31 30).symm.trans ((va_up_ne _ _ (by decide)).trans v_30)
  have v_9 : mf_31 9 = .ref q_29 := (congrFun emf_31 9).symm.trans (va_up_self _ _ _)
  generalize eh_32 : fU h_30 x (40, 0, .inr (8, mo mf_31)) = h_32 at hI
  have hX := hX.set (e := .inr (8, mo mf_31)) g_x (by decide); rw [eh_32] at hX
  have hF := hF.set (e := .inr (8, mo mf_31)) g_x (by decide); rw [eh_32] at hF
  have g_q_29 : h_32 q_29 = some (50, 0, .inl ((G.2.1 1), 300, .inr (.inl (fun _ => 0)))) := (congrFun eh_32 q_29).symm.trans (fU_keep g_q_29 (f_neR g_q_29 g_x (by decide)))
  have hW9 : fF (inR [40]) h_30 h_32 := by rw [← eh_32]; exact fF.rf.set g_x (by show _ ∈ _; decide)
  have hL := hL.keepS hW9
  have g_x : h_32 x = some (40, 0, .inr (8, mo mf_31)) := (congrFun eh_32 x).symm.trans (fU_self _ _ _)
  have hL := mI.add hL g_q_29 (show (50 : Nat) ≠ 40 by decide)
  clear g_q_29
  refine lv_aload_n hx hb d_MO_init_74 rfl (lv_at hl 0 rfl) ?_
  refine lv_sipush (v := 300) hx hb d_MO_init_75 (by decide) ?_
  have hzN := hI.2.2.2.1
  refine f_newa (atype := .long) (a0 := (300, .inr (.inl (fun _ => 0)))) (cA := (G.2.1 1)) hx hb (hT _ w_143) rfl hI (hK.2 1 _ rfl).2 rfl (by decide) rfl (by decide) 51 0 (Nat.le_of_ble_eq_true rfl) (Nat.le_of_ble_eq_true rfl) d_MO_init_78 (fun q_33 H eq_33 zq_33 nq_33 hI => ?_)
  generalize eh_34 : fU h_32 q_33 (51, 0, .inl ((G.2.1 1), 300, .inr (.inl (fun _ => 0)))) = h_34 at hI
  have hX := hX.new (e := .inl ((G.2.1 1), 300, .inr (.inl (fun _ => 0)))) (r := 51) (o := 0) nq_33 (by omega); rw [eh_34] at hX
  have hF := hF.new (c := (51, 0, .inl ((G.2.1 1), 300, .inr (.inl (fun _ => 0))))) nq_33; rw [eh_34] at hF
  have hW9 : fF (inR []) h_32 h_34 := by rw [← eh_34]; exact fF.rf.new nq_33
  have hL := hL.keep0 hW9
  have g_x : h_34 x = some (40, 0, .inr (8, mo mf_31)) := (congrFun eh_34 x).symm.trans (fU_keep g_x (f_neN g_x nq_33))
  have g_q_33 : h_34 q_33 = some (51, 0, .inl ((G.2.1 1), 300, .inr (.inl (fun _ => 0)))) := (congrFun eh_34 q_33).symm.trans (fU_self _ _ _)
  refine f_putF (C := "DutyRulesModel") (T := T_MO) (N := 40) (fs' := mo (va_up mf_31 10 (.ref q_33))) (v := .ref q_33) hx hb (fun w q => hT w (s_MO w q)) t_MO k_MO n_MO hown hK hI g_x (by decide) rfl 10 (by decide) (hT _ w_819) (fun _ q => q) rfl hnm rfl rfl rfl (by rw [mo_len]; decide) (mo_set _) d_MO_init_80 (fun H locs hI => ?_)
  generalize emf_35 : va_up mf_31 10 (.ref q_33) = mf_35 at hI
  have v_0 : mf_35 0 = .ref q_1 := (congrFun emf_35 0).symm.trans ((va_up_ne _ _ (by decide)).trans v_0)
  have v_1 : mf_35 1 = .int 0 := (congrFun emf_35 1).symm.trans ((va_up_ne _ _ (by decide)).trans v_1)
  have v_2 : mf_35 2 = .ref q_5 := (congrFun emf_35 2).symm.trans ((va_up_ne _ _ (by decide)).trans v_2)
  have v_3 : mf_35 3 = .ref q_9 := (congrFun emf_35 3).symm.trans ((va_up_ne _ _ (by decide)).trans v_3)
  have v_4 : mf_35 4 = .ref q_13 := (congrFun emf_35 4).symm.trans ((va_up_ne _ _ (by decide)).trans v_4)
  have v_5 : mf_35 5 = .ref q_17 := (congrFun emf_35 5).symm.trans ((va_up_ne _ _ (by decide)).trans v_5)
  have v_6 : mf_35 6 = .int 0 := (congrFun emf_35 6).symm.trans ((va_up_ne _ _ (by decide)).trans v_6)
  have v_7 : mf_35 7 = .ref q_21 := (congrFun emf_35 7).symm.trans ((va_up_ne _ _ (by decide)).trans v_7)
  have v_8 : mf_35 8 = .ref q_25 := (congrFun emf_35 8).symm.trans ((va_up_ne _ _ (by decide)).trans v_8)
  have v_9 : mf_35 9 = .ref q_29 := (congrFun emf_35 9).symm.trans ((va_up_ne _ _ (by decide)).trans v_9)
  have v_12 : mf_35 12 = .int 0 := (congrFun emf_35 12).symm.trans ((va_up_ne _ _ (by decide)).trans v_12)
  have v_13 : mf_35 13 = .long 0 := (congrFun emf_35 13).symm.trans ((va_up_ne _ _ (by decide)).trans v_13)
  have v_14 : mf_35 14 = .int 0 := (congrFun emf_35 14).symm.trans ((va_up_ne _ _ (by decide)).trans v_14)
  have v_18 : mf_35 18 = .int 0 := (congrFun emf_35 18).symm.trans ((va_up_ne _ _ (by decide)).trans v_18)
  have v_19 : mf_35 19 = .long 0 := (congrFun emf_35 19).symm.trans ((va_up_ne _ _ (by decide)).trans v_19)
  have v_20 : mf_35 20 = .long 0 := (congrFun emf_35 20).symm.trans ((va_up_ne _ _ (by decide)).trans v_20)
  have v_22 : mf_35 22 = .int 0 := (congrFun emf_35 22).symm.trans ((va_up_ne _ _ (by decide)).trans v_22)
  have v_23 : mf_35 23 = .int 0 := (congrFun emf_35 23).symm.trans ((va_up_ne _ _ (by decide)).trans v_23)
  have v_30 : mf_35 30 = .int 0 := (congrFun emf_35 30).symm.trans ((va_up_ne _ _ (by decide)).trans v_30)
  have v_10 : mf_35 10 = .ref q_33 := (congrFun emf_35 10).symm.trans (va_up_self _ _ _)
  generalize eh_36 : fU h_34 x (40, 0, .inr (8, mo mf_35)) = h_36 at hI
  have hX := hX.set (e := .inr (8, mo mf_35)) g_x (by decide); rw [eh_36] at hX
  have hF := hF.set (e := .inr (8, mo mf_35)) g_x (by decide); rw [eh_36] at hF
  have g_q_33 : h_36 q_33 = some (51, 0, .inl ((G.2.1 1), 300, .inr (.inl (fun _ => 0)))) := (congrFun eh_36 q_33).symm.trans (fU_keep g_q_33 (f_neR g_q_33 g_x (by decide)))
  have hW9 : fF (inR [40]) h_34 h_36 := by rw [← eh_36]; exact fF.rf.set g_x (by show _ ∈ _; decide)
  have hL := hL.keepS hW9
  have g_x : h_36 x = some (40, 0, .inr (8, mo mf_35)) := (congrFun eh_36 x).symm.trans (fU_self _ _ _)
  have hL := mI.add hL g_q_33 (show (51 : Nat) ≠ 40 by decide)
  clear g_q_33
  refine lv_aload_n hx hb d_MO_init_83 rfl (lv_at hl 0 rfl) ?_
  refine lv_sipush (v := 300) hx hb d_MO_init_84 (by decide) ?_
  have hzN := hI.2.2.2.1
  refine f_newa (atype := .long) (a0 := (300, .inr (.inl (fun _ => 0)))) (cA := (G.2.1 1)) hx hb (hT _ w_143) rfl hI (hK.2 1 _ rfl).2 rfl (by decide) rfl (by decide) 52 0 (Nat.le_of_ble_eq_true rfl) (Nat.le_of_ble_eq_true rfl) d_MO_init_87 (fun q_37 H eq_37 zq_37 nq_37 hI => ?_)
  generalize eh_38 : fU h_36 q_37 (52, 0, .inl ((G.2.1 1), 300, .inr (.inl (fun _ => 0)))) = h_38 at hI
  have hX := hX.new (e := .inl ((G.2.1 1), 300, .inr (.inl (fun _ => 0)))) (r := 52) (o := 0) nq_37 (by omega); rw [eh_38] at hX
  have hF := hF.new (c := (52, 0, .inl ((G.2.1 1), 300, .inr (.inl (fun _ => 0))))) nq_37; rw [eh_38] at hF
  have hW9 : fF (inR []) h_36 h_38 := by rw [← eh_38]; exact fF.rf.new nq_37
  have hL := hL.keep0 hW9
  have g_x : h_38 x = some (40, 0, .inr (8, mo mf_35)) := (congrFun eh_38 x).symm.trans (fU_keep g_x (f_neN g_x nq_37))
  have g_q_37 : h_38 q_37 = some (52, 0, .inl ((G.2.1 1), 300, .inr (.inl (fun _ => 0)))) := (congrFun eh_38 q_37).symm.trans (fU_self _ _ _)
  refine f_putF (C := "DutyRulesModel") (T := T_MO) (N := 40) (fs' := mo (va_up mf_35 11 (.ref q_37))) (v := .ref q_37) hx hb (fun w q => hT w (s_MO w q)) t_MO k_MO n_MO hown hK hI g_x (by decide) rfl 11 (by decide) (hT _ w_820) (fun _ q => q) rfl hnm rfl rfl rfl (by rw [mo_len]; decide) (mo_set _) d_MO_init_89 (fun H locs hI => ?_)
  generalize emf_39 : va_up mf_35 11 (.ref q_37) = mf_39 at hI
  have v_0 : mf_39 0 = .ref q_1 := (congrFun emf_39 0).symm.trans ((va_up_ne _ _ (by decide)).trans v_0)
  have v_1 : mf_39 1 = .int 0 := (congrFun emf_39 1).symm.trans ((va_up_ne _ _ (by decide)).trans v_1)
  have v_2 : mf_39 2 = .ref q_5 := (congrFun emf_39 2).symm.trans ((va_up_ne _ _ (by decide)).trans v_2)
  have v_3 : mf_39 3 = .ref q_9 := (congrFun emf_39 3).symm.trans ((va_up_ne _ _ (by decide)).trans v_3)
  have v_4 : mf_39 4 = .ref q_13 := (congrFun emf_39 4).symm.trans ((va_up_ne _ _ (by decide)).trans v_4)
  have v_5 : mf_39 5 = .ref q_17 := (congrFun emf_39 5).symm.trans ((va_up_ne _ _ (by decide)).trans v_5)
  have v_6 : mf_39 6 = .int 0 := (congrFun emf_39 6).symm.trans ((va_up_ne _ _ (by decide)).trans v_6)
  have v_7 : mf_39 7 = .ref q_21 := (congrFun emf_39 7).symm.trans ((va_up_ne _ _ (by decide)).trans v_7)
  have v_8 : mf_39 8 = .ref q_25 := (congrFun emf_39 8).symm.trans ((va_up_ne _ _ (by decide)).trans v_8)
  have v_9 : mf_39 9 = .ref q_29 := (congrFun emf_39 9).symm.trans ((va_up_ne _ _ (by decide)).trans v_9)
  have v_10 : mf_39 10 = .ref q_33 := (congrFun emf_39 10).symm.trans ((va_up_ne _ _ (by decide)).trans v_10)
  have v_12 : mf_39 12 = .int 0 := (congrFun emf_39 12).symm.trans ((va_up_ne _ _ (by decide)).trans v_12)
  have v_13 : mf_39 13 = .long 0 := (congrFun emf_39 13).symm.trans ((va_up_ne _ _ (by decide)).trans v_13)
  have v_14 : mf_39 14 = .int 0 := (congrFun emf_39 14).symm.trans ((va_up_ne _ _ (by decide)).trans v_14)
  have v_18 : mf_39 18 = .int 0 := (congrFun emf_39 18).symm.trans ((va_up_ne _ _ (by decide)).trans v_18)
  have v_19 : mf_39 19 = .long 0 := (congrFun emf_39 19).symm.trans ((va_up_ne _ _ (by decide)).trans v_19)
  have v_20 : mf_39 20 = .long 0 := (congrFun emf_39 20).symm.trans ((va_up_ne _ _ (by decide)).trans v_20)
  have v_22 : mf_39 22 = .int 0 := (congrFun emf_39 22).symm.trans ((va_up_ne _ _ (by decide)).trans v_22)
  have v_23 : mf_39 23 = .int 0 := (congrFun emf_39 23).symm.trans ((va_up_ne _ _ (by decide)).trans v_23)
  have v_30 : mf_39 30 = .int 0 := (congrFun emf_39 30).symm.trans ((va_up_ne _ _ (by decide)).trans v_30)
  have v_11 : mf_39 11 = .ref q_37 := (congrFun emf_39 11).symm.trans (va_up_self _ _ _)
  generalize eh_40 : fU h_38 x (40, 0, .inr (8, mo mf_39)) = h_40 at hI
  have hX := hX.set (e := .inr (8, mo mf_39)) g_x (by decide); rw [eh_40] at hX
  have hF := hF.set (e := .inr (8, mo mf_39)) g_x (by decide); rw [eh_40] at hF
  have g_q_37 : h_40 q_37 = some (52, 0, .inl ((G.2.1 1), 300, .inr (.inl (fun _ => 0)))) := (congrFun eh_40 q_37).symm.trans (fU_keep g_q_37 (f_neR g_q_37 g_x (by decide)))
  have hW9 : fF (inR [40]) h_38 h_40 := by rw [← eh_40]; exact fF.rf.set g_x (by show _ ∈ _; decide)
  have hL := hL.keepS hW9
  have g_x : h_40 x = some (40, 0, .inr (8, mo mf_39)) := (congrFun eh_40 x).symm.trans (fU_self _ _ _)
  have hL := mI.add hL g_q_37 (show (52 : Nat) ≠ 40 by decide)
  clear g_q_37
  refine lv_aload_n hx hb d_MO_init_92 rfl (lv_at hl 0 rfl) ?_
  refine lv_iconst (v := 5) hx hb d_MO_init_93 (by decide) ?_
  have hzN := hI.2.2.2.1
  refine f_newa (atype := .int) (a0 := (5, .inl (fun _ => 0))) (cA := (G.2.1 0)) hx hb (hT _ w_81) rfl hI (hK.2 0 _ rfl).2 rfl (by decide) rfl (by decide) 56 0 (Nat.le_of_ble_eq_true rfl) (Nat.le_of_ble_eq_true rfl) d_MO_init_94 (fun q_41 H eq_41 zq_41 nq_41 hI => ?_)
  generalize eh_42 : fU h_40 q_41 (56, 0, .inl ((G.2.1 0), 5, .inl (fun _ => 0))) = h_42 at hI
  have hX := hX.new (e := .inl ((G.2.1 0), 5, .inl (fun _ => 0))) (r := 56) (o := 0) nq_41 (by omega); rw [eh_42] at hX
  have hF := hF.new (c := (56, 0, .inl ((G.2.1 0), 5, .inl (fun _ => 0)))) nq_41; rw [eh_42] at hF
  have hW9 : fF (inR []) h_40 h_42 := by rw [← eh_42]; exact fF.rf.new nq_41
  have hL := hL.keep0 hW9
  have g_x : h_42 x = some (40, 0, .inr (8, mo mf_39)) := (congrFun eh_42 x).symm.trans (fU_keep g_x (f_neN g_x nq_41))
  have g_q_41 : h_42 q_41 = some (56, 0, .inl ((G.2.1 0), 5, .inl (fun _ => 0))) := (congrFun eh_42 q_41).symm.trans (fU_self _ _ _)
  refine f_putF (C := "DutyRulesModel") (T := T_MO) (N := 40) (fs' := mo (va_up mf_39 15 (.ref q_41))) (v := .ref q_41) hx hb (fun w q => hT w (s_MO w q)) t_MO k_MO n_MO hown hK hI g_x (by decide) rfl 15 (by decide) (hT _ w_824) (fun _ q => q) rfl hnm rfl rfl rfl (by rw [mo_len]; decide) (mo_set _) d_MO_init_96 (fun H locs hI => ?_)
  generalize emf_43 : va_up mf_39 15 (.ref q_41) = mf_43 at hI
  have v_0 : mf_43 0 = .ref q_1 := (congrFun emf_43 0).symm.trans ((va_up_ne _ _ (by decide)).trans v_0)
  have v_1 : mf_43 1 = .int 0 := (congrFun emf_43 1).symm.trans ((va_up_ne _ _ (by decide)).trans v_1)
  have v_2 : mf_43 2 = .ref q_5 := (congrFun emf_43 2).symm.trans ((va_up_ne _ _ (by decide)).trans v_2)
  have v_3 : mf_43 3 = .ref q_9 := (congrFun emf_43 3).symm.trans ((va_up_ne _ _ (by decide)).trans v_3)
  have v_4 : mf_43 4 = .ref q_13 := (congrFun emf_43 4).symm.trans ((va_up_ne _ _ (by decide)).trans v_4)
  have v_5 : mf_43 5 = .ref q_17 := (congrFun emf_43 5).symm.trans ((va_up_ne _ _ (by decide)).trans v_5)
  have v_6 : mf_43 6 = .int 0 := (congrFun emf_43 6).symm.trans ((va_up_ne _ _ (by decide)).trans v_6)
  have v_7 : mf_43 7 = .ref q_21 := (congrFun emf_43 7).symm.trans ((va_up_ne _ _ (by decide)).trans v_7)
  have v_8 : mf_43 8 = .ref q_25 := (congrFun emf_43 8).symm.trans ((va_up_ne _ _ (by decide)).trans v_8)
  have v_9 : mf_43 9 = .ref q_29 := (congrFun emf_43 9).symm.trans ((va_up_ne _ _ (by decide)).trans v_9)
  have v_10 : mf_43 10 = .ref q_33 := (congrFun emf_43 10).symm.trans ((va_up_ne _ _ (by decide)).trans v_10)
  have v_11 : mf_43 11 = .ref q_37 := (congrFun emf_43 11).symm.trans ((va_up_ne _ _ (by decide)).trans v_11)
  have v_12 : mf_43 12 = .int 0 := (congrFun emf_43 12).symm.trans ((va_up_ne _ _ (by decide)).trans v_12)
  have v_13 : mf_43 13 = .long 0 := (congrFun emf_43 13).symm.trans ((va_up_ne _ _ (by decide)).trans v_13)
  have v_14 : mf_43 14 = .int 0 := (congrFun emf_43 14).symm.trans ((va_up_ne _ _ (by decide)).trans v_14)
  have v_18 : mf_43 18 = .int 0 := (congrFun emf_43 18).symm.trans ((va_up_ne _ _ (by decide)).trans v_18)
  have v_19 : mf_43 19 = .long 0 := (congrFun emf_43 19).symm.trans ((va_up_ne _ _ (by decide)).trans v_19)
  have v_20 : mf_43 20 = .long 0 := (congrFun emf_43 20).symm.trans ((va_up_ne _ _ (by decide)).trans v_20)
  have v_22 : mf_43 22 = .int 0 := (congrFun emf_43 22).symm.trans ((va_up_ne _ _ (by decide)).trans v_22)
  have v_23 : mf_43 23 = .int 0 := (congrFun emf_43 23).symm.trans ((va_up_ne _ _ (by decide)).trans v_23)
  have v_30 : mf_43 30 = .int 0 := (congrFun emf_43 30).symm.trans ((va_up_ne _ _ (by decide)).trans v_30)
  have v_15 : mf_43 15 = .ref q_41 := (congrFun emf_43 15).symm.trans (va_up_self _ _ _)
  generalize eh_44 : fU h_42 x (40, 0, .inr (8, mo mf_43)) = h_44 at hI
  have hX := hX.set (e := .inr (8, mo mf_43)) g_x (by decide); rw [eh_44] at hX
  have hF := hF.set (e := .inr (8, mo mf_43)) g_x (by decide); rw [eh_44] at hF
  have g_q_41 : h_44 q_41 = some (56, 0, .inl ((G.2.1 0), 5, .inl (fun _ => 0))) := (congrFun eh_44 q_41).symm.trans (fU_keep g_q_41 (f_neR g_q_41 g_x (by decide)))
  have hW9 : fF (inR [40]) h_42 h_44 := by rw [← eh_44]; exact fF.rf.set g_x (by show _ ∈ _; decide)
  have hL := hL.keepS hW9
  have g_x : h_44 x = some (40, 0, .inr (8, mo mf_43)) := (congrFun eh_44 x).symm.trans (fU_self _ _ _)
  have hL := mI.add hL g_q_41 (show (56 : Nat) ≠ 40 by decide)
  clear g_q_41
  refine lv_aload_n hx hb d_MO_init_99 rfl (lv_at hl 0 rfl) ?_
  refine lv_iconst (v := 5) hx hb d_MO_init_100 (by decide) ?_
  have hzN := hI.2.2.2.1
  refine f_newa (atype := .int) (a0 := (5, .inl (fun _ => 0))) (cA := (G.2.1 0)) hx hb (hT _ w_81) rfl hI (hK.2 0 _ rfl).2 rfl (by decide) rfl (by decide) 57 0 (Nat.le_of_ble_eq_true rfl) (Nat.le_of_ble_eq_true rfl) d_MO_init_101 (fun q_45 H eq_45 zq_45 nq_45 hI => ?_)
  generalize eh_46 : fU h_44 q_45 (57, 0, .inl ((G.2.1 0), 5, .inl (fun _ => 0))) = h_46 at hI
  have hX := hX.new (e := .inl ((G.2.1 0), 5, .inl (fun _ => 0))) (r := 57) (o := 0) nq_45 (by omega); rw [eh_46] at hX
  have hF := hF.new (c := (57, 0, .inl ((G.2.1 0), 5, .inl (fun _ => 0)))) nq_45; rw [eh_46] at hF
  have hW9 : fF (inR []) h_44 h_46 := by rw [← eh_46]; exact fF.rf.new nq_45
  have hL := hL.keep0 hW9
  have g_x : h_46 x = some (40, 0, .inr (8, mo mf_43)) := (congrFun eh_46 x).symm.trans (fU_keep g_x (f_neN g_x nq_45))
  have g_q_45 : h_46 q_45 = some (57, 0, .inl ((G.2.1 0), 5, .inl (fun _ => 0))) := (congrFun eh_46 q_45).symm.trans (fU_self _ _ _)
  refine f_putF (C := "DutyRulesModel") (T := T_MO) (N := 40) (fs' := mo (va_up mf_43 16 (.ref q_45))) (v := .ref q_45) hx hb (fun w q => hT w (s_MO w q)) t_MO k_MO n_MO hown hK hI g_x (by decide) rfl 16 (by decide) (hT _ w_825) (fun _ q => q) rfl hnm rfl rfl rfl (by rw [mo_len]; decide) (mo_set _) d_MO_init_103 (fun H locs hI => ?_)
  generalize emf_47 : va_up mf_43 16 (.ref q_45) = mf_47 at hI
  have v_0 : mf_47 0 = .ref q_1 := (congrFun emf_47 0).symm.trans ((va_up_ne _ _ (by decide)).trans v_0)
  have v_1 : mf_47 1 = .int 0 := (congrFun emf_47 1).symm.trans ((va_up_ne _ _ (by decide)).trans v_1)
  have v_2 : mf_47 2 = .ref q_5 := (congrFun emf_47 2).symm.trans ((va_up_ne _ _ (by decide)).trans v_2)
  have v_3 : mf_47 3 = .ref q_9 := (congrFun emf_47 3).symm.trans ((va_up_ne _ _ (by decide)).trans v_3)
  have v_4 : mf_47 4 = .ref q_13 := (congrFun emf_47 4).symm.trans ((va_up_ne _ _ (by decide)).trans v_4)
  have v_5 : mf_47 5 = .ref q_17 := (congrFun emf_47 5).symm.trans ((va_up_ne _ _ (by decide)).trans v_5)
  have v_6 : mf_47 6 = .int 0 := (congrFun emf_47 6).symm.trans ((va_up_ne _ _ (by decide)).trans v_6)
  have v_7 : mf_47 7 = .ref q_21 := (congrFun emf_47 7).symm.trans ((va_up_ne _ _ (by decide)).trans v_7)
  have v_8 : mf_47 8 = .ref q_25 := (congrFun emf_47 8).symm.trans ((va_up_ne _ _ (by decide)).trans v_8)
  have v_9 : mf_47 9 = .ref q_29 := (congrFun emf_47 9).symm.trans ((va_up_ne _ _ (by decide)).trans v_9)
  have v_10 : mf_47 10 = .ref q_33 := (congrFun emf_47 10).symm.trans ((va_up_ne _ _ (by decide)).trans v_10)
  have v_11 : mf_47 11 = .ref q_37 := (congrFun emf_47 11).symm.trans ((va_up_ne _ _ (by decide)).trans v_11)
  have v_12 : mf_47 12 = .int 0 := (congrFun emf_47 12).symm.trans ((va_up_ne _ _ (by decide)).trans v_12)
  have v_13 : mf_47 13 = .long 0 := (congrFun emf_47 13).symm.trans ((va_up_ne _ _ (by decide)).trans v_13)
  have v_14 : mf_47 14 = .int 0 := (congrFun emf_47 14).symm.trans ((va_up_ne _ _ (by decide)).trans v_14)
  have v_15 : mf_47 15 = .ref q_41 := (congrFun emf_47 15).symm.trans ((va_up_ne _ _ (by decide)).trans v_15)
  have v_18 : mf_47 18 = .int 0 := (congrFun emf_47 18).symm.trans ((va_up_ne _ _ (by decide)).trans v_18)
  have v_19 : mf_47 19 = .long 0 := (congrFun emf_47 19).symm.trans ((va_up_ne _ _ (by decide)).trans v_19)
  have v_20 : mf_47 20 = .long 0 := (congrFun emf_47 20).symm.trans ((va_up_ne _ _ (by decide)).trans v_20)
  have v_22 : mf_47 22 = .int 0 := (congrFun emf_47 22).symm.trans ((va_up_ne _ _ (by decide)).trans v_22)
  have v_23 : mf_47 23 = .int 0 := (congrFun emf_47 23).symm.trans ((va_up_ne _ _ (by decide)).trans v_23)
  have v_30 : mf_47 30 = .int 0 := (congrFun emf_47 30).symm.trans ((va_up_ne _ _ (by decide)).trans v_30)
  have v_16 : mf_47 16 = .ref q_45 := (congrFun emf_47 16).symm.trans (va_up_self _ _ _)
  generalize eh_48 : fU h_46 x (40, 0, .inr (8, mo mf_47)) = h_48 at hI
  have hX := hX.set (e := .inr (8, mo mf_47)) g_x (by decide); rw [eh_48] at hX
  have hF := hF.set (e := .inr (8, mo mf_47)) g_x (by decide); rw [eh_48] at hF
  have g_q_45 : h_48 q_45 = some (57, 0, .inl ((G.2.1 0), 5, .inl (fun _ => 0))) := (congrFun eh_48 q_45).symm.trans (fU_keep g_q_45 (f_neR g_q_45 g_x (by decide)))
  have hW9 : fF (inR [40]) h_46 h_48 := by rw [← eh_48]; exact fF.rf.set g_x (by show _ ∈ _; decide)
  have hL := hL.keepS hW9
  have g_x : h_48 x = some (40, 0, .inr (8, mo mf_47)) := (congrFun eh_48 x).symm.trans (fU_self _ _ _)
  have hL := mI.add hL g_q_45 (show (57 : Nat) ≠ 40 by decide)
  clear g_q_45
  refine lv_aload_n hx hb d_MO_init_106 rfl (lv_at hl 0 rfl) ?_
  refine lv_iconst (v := 5) hx hb d_MO_init_107 (by decide) ?_
  have hzN := hI.2.2.2.1
  refine f_newa (atype := .long) (a0 := (5, .inr (.inl (fun _ => 0)))) (cA := (G.2.1 1)) hx hb (hT _ w_143) rfl hI (hK.2 1 _ rfl).2 rfl (by decide) rfl (by decide) 58 0 (Nat.le_of_ble_eq_true rfl) (Nat.le_of_ble_eq_true rfl) d_MO_init_108 (fun q_49 H eq_49 zq_49 nq_49 hI => ?_)
  generalize eh_50 : fU h_48 q_49 (58, 0, .inl ((G.2.1 1), 5, .inr (.inl (fun _ => 0)))) = h_50 at hI
  have hX := hX.new (e := .inl ((G.2.1 1), 5, .inr (.inl (fun _ => 0)))) (r := 58) (o := 0) nq_49 (by omega); rw [eh_50] at hX
  have hF := hF.new (c := (58, 0, .inl ((G.2.1 1), 5, .inr (.inl (fun _ => 0))))) nq_49; rw [eh_50] at hF
  have hW9 : fF (inR []) h_48 h_50 := by rw [← eh_50]; exact fF.rf.new nq_49
  have hL := hL.keep0 hW9
  have g_x : h_50 x = some (40, 0, .inr (8, mo mf_47)) := (congrFun eh_50 x).symm.trans (fU_keep g_x (f_neN g_x nq_49))
  have g_q_49 : h_50 q_49 = some (58, 0, .inl ((G.2.1 1), 5, .inr (.inl (fun _ => 0)))) := (congrFun eh_50 q_49).symm.trans (fU_self _ _ _)
  refine f_putF (C := "DutyRulesModel") (T := T_MO) (N := 40) (fs' := mo (va_up mf_47 17 (.ref q_49))) (v := .ref q_49) hx hb (fun w q => hT w (s_MO w q)) t_MO k_MO n_MO hown hK hI g_x (by decide) rfl 17 (by decide) (hT _ w_826) (fun _ q => q) rfl hnm rfl rfl rfl (by rw [mo_len]; decide) (mo_set _) d_MO_init_110 (fun H locs hI => ?_)
  generalize emf_51 : va_up mf_47 17 (.ref q_49) = mf_51 at hI
  have v_0 : mf_51 0 = .ref q_1 := (congrFun emf_51 0).symm.trans ((va_up_ne _ _ (by decide)).trans v_0)
  have v_1 : mf_51 1 = .int 0 := (congrFun emf_51 1).symm.trans ((va_up_ne _ _ (by decide)).trans v_1)
  have v_2 : mf_51 2 = .ref q_5 := (congrFun emf_51 2).symm.trans ((va_up_ne _ _ (by decide)).trans v_2)
  have v_3 : mf_51 3 = .ref q_9 := (congrFun emf_51 3).symm.trans ((va_up_ne _ _ (by decide)).trans v_3)
  have v_4 : mf_51 4 = .ref q_13 := (congrFun emf_51 4).symm.trans ((va_up_ne _ _ (by decide)).trans v_4)
  have v_5 : mf_51 5 = .ref q_17 := (congrFun emf_51 5).symm.trans ((va_up_ne _ _ (by decide)).trans v_5)
  have v_6 : mf_51 6 = .int 0 := (congrFun emf_51 6).symm.trans ((va_up_ne _ _ (by decide)).trans v_6)
  have v_7 : mf_51 7 = .ref q_21 := (congrFun emf_51 7).symm.trans ((va_up_ne _ _ (by decide)).trans v_7)
  have v_8 : mf_51 8 = .ref q_25 := (congrFun emf_51 8).symm.trans ((va_up_ne _ _ (by decide)).trans v_8)
  have v_9 : mf_51 9 = .ref q_29 := (congrFun emf_51 9).symm.trans ((va_up_ne _ _ (by decide)).trans v_9)
  have v_10 : mf_51 10 = .ref q_33 := (congrFun emf_51 10).symm.trans ((va_up_ne _ _ (by decide)).trans v_10)
  have v_11 : mf_51 11 = .ref q_37 := (congrFun emf_51 11).symm.trans ((va_up_ne _ _ (by decide)).trans v_11)
  have v_12 : mf_51 12 = .int 0 := (congrFun emf_51 12).symm.trans ((va_up_ne _ _ (by decide)).trans v_12)
  have v_13 : mf_51 13 = .long 0 := (congrFun emf_51 13).symm.trans ((va_up_ne _ _ (by decide)).trans v_13)
  have v_14 : mf_51 14 = .int 0 := (congrFun emf_51 14).symm.trans ((va_up_ne _ _ (by decide)).trans v_14)
  have v_15 : mf_51 15 = .ref q_41 := (congrFun emf_51 15).symm.trans ((va_up_ne _ _ (by decide)).trans v_15)
  have v_16 : mf_51 16 = .ref q_45 := (congrFun emf_51 16).symm.trans ((va_up_ne _ _ (by decide)).trans v_16)
  have v_18 : mf_51 18 = .int 0 := (congrFun emf_51 18).symm.trans ((va_up_ne _ _ (by decide)).trans v_18)
  have v_19 : mf_51 19 = .long 0 := (congrFun emf_51 19).symm.trans ((va_up_ne _ _ (by decide)).trans v_19)
  have v_20 : mf_51 20 = .long 0 := (congrFun emf_51 20).symm.trans ((va_up_ne _ _ (by decide)).trans v_20)
  have v_22 : mf_51 22 = .int 0 := (congrFun emf_51 22).symm.trans ((va_up_ne _ _ (by decide)).trans v_22)
  have v_23 : mf_51 23 = .int 0 := (congrFun emf_51 23).symm.trans ((va_up_ne _ _ (by decide)).trans v_23)
  have v_30 : mf_51 30 = .int 0 := (congrFun emf_51 30).symm.trans ((va_up_ne _ _ (by decide)).trans v_30)
  have v_17 : mf_51 17 = .ref q_49 := (congrFun emf_51 17).symm.trans (va_up_self _ _ _)
  generalize eh_52 : fU h_50 x (40, 0, .inr (8, mo mf_51)) = h_52 at hI
  have hX := hX.set (e := .inr (8, mo mf_51)) g_x (by decide); rw [eh_52] at hX
  have hF := hF.set (e := .inr (8, mo mf_51)) g_x (by decide); rw [eh_52] at hF
  have g_q_49 : h_52 q_49 = some (58, 0, .inl ((G.2.1 1), 5, .inr (.inl (fun _ => 0)))) := (congrFun eh_52 q_49).symm.trans (fU_keep g_q_49 (f_neR g_q_49 g_x (by decide)))
  have hW9 : fF (inR [40]) h_50 h_52 := by rw [← eh_52]; exact fF.rf.set g_x (by show _ ∈ _; decide)
  have hL := hL.keepS hW9
  have g_x : h_52 x = some (40, 0, .inr (8, mo mf_51)) := (congrFun eh_52 x).symm.trans (fU_self _ _ _)
  have hL := mI.add hL g_q_49 (show (58 : Nat) ≠ 40 by decide)
  clear g_q_49
  refine lv_aload_n hx hb d_MO_init_113 rfl (lv_at hl 0 rfl) ?_
  refine lv_iconst (v := (-1)) hx hb d_MO_init_114 (by decide) ?_
  refine f_put (C := "DutyRulesModel") (T := T_MO) (N := 40) (fs' := mo (va_up mf_51 21 (.int (-1)))) (v := .int (-1)) hx hb (fun w q => hT w (s_MO w q)) t_MO k_MO n_MO hown hK hI g_x (by decide) rfl 21 (by decide) (hT _ w_830) (fun _ q => q) rfl rfl rfl (by rw [mo_len]; decide) (mo_set _) d_MO_init_115 (fun H locs hI => ?_)
  generalize emf_53 : va_up mf_51 21 (.int (-1)) = mf_53 at hI
  have v_0 : mf_53 0 = .ref q_1 := (congrFun emf_53 0).symm.trans ((va_up_ne _ _ (by decide)).trans v_0)
  have v_1 : mf_53 1 = .int 0 := (congrFun emf_53 1).symm.trans ((va_up_ne _ _ (by decide)).trans v_1)
  have v_2 : mf_53 2 = .ref q_5 := (congrFun emf_53 2).symm.trans ((va_up_ne _ _ (by decide)).trans v_2)
  have v_3 : mf_53 3 = .ref q_9 := (congrFun emf_53 3).symm.trans ((va_up_ne _ _ (by decide)).trans v_3)
  have v_4 : mf_53 4 = .ref q_13 := (congrFun emf_53 4).symm.trans ((va_up_ne _ _ (by decide)).trans v_4)
  have v_5 : mf_53 5 = .ref q_17 := (congrFun emf_53 5).symm.trans ((va_up_ne _ _ (by decide)).trans v_5)
  have v_6 : mf_53 6 = .int 0 := (congrFun emf_53 6).symm.trans ((va_up_ne _ _ (by decide)).trans v_6)
  have v_7 : mf_53 7 = .ref q_21 := (congrFun emf_53 7).symm.trans ((va_up_ne _ _ (by decide)).trans v_7)
  have v_8 : mf_53 8 = .ref q_25 := (congrFun emf_53 8).symm.trans ((va_up_ne _ _ (by decide)).trans v_8)
  have v_9 : mf_53 9 = .ref q_29 := (congrFun emf_53 9).symm.trans ((va_up_ne _ _ (by decide)).trans v_9)
  have v_10 : mf_53 10 = .ref q_33 := (congrFun emf_53 10).symm.trans ((va_up_ne _ _ (by decide)).trans v_10)
  have v_11 : mf_53 11 = .ref q_37 := (congrFun emf_53 11).symm.trans ((va_up_ne _ _ (by decide)).trans v_11)
  have v_12 : mf_53 12 = .int 0 := (congrFun emf_53 12).symm.trans ((va_up_ne _ _ (by decide)).trans v_12)
  have v_13 : mf_53 13 = .long 0 := (congrFun emf_53 13).symm.trans ((va_up_ne _ _ (by decide)).trans v_13)
  have v_14 : mf_53 14 = .int 0 := (congrFun emf_53 14).symm.trans ((va_up_ne _ _ (by decide)).trans v_14)
  have v_15 : mf_53 15 = .ref q_41 := (congrFun emf_53 15).symm.trans ((va_up_ne _ _ (by decide)).trans v_15)
  have v_16 : mf_53 16 = .ref q_45 := (congrFun emf_53 16).symm.trans ((va_up_ne _ _ (by decide)).trans v_16)
  have v_17 : mf_53 17 = .ref q_49 := (congrFun emf_53 17).symm.trans ((va_up_ne _ _ (by decide)).trans v_17)
  have v_18 : mf_53 18 = .int 0 := (congrFun emf_53 18).symm.trans ((va_up_ne _ _ (by decide)).trans v_18)
  have v_19 : mf_53 19 = .long 0 := (congrFun emf_53 19).symm.trans ((va_up_ne _ _ (by decide)).trans v_19)
  have v_20 : mf_53 20 = .long 0 := (congrFun emf_53 20).symm.trans ((va_up_ne _ _ (by decide)).trans v_20)
  have v_22 : mf_53 22 = .int 0 := (congrFun emf_53 22).symm.trans ((va_up_ne _ _ (by decide)).trans v_22)
  have v_23 : mf_53 23 = .int 0 := (congrFun emf_53 23).symm.trans ((va_up_ne _ _ (by decide)).trans v_23)
  have v_30 : mf_53 30 = .int 0 := (congrFun emf_53 30).symm.trans ((va_up_ne _ _ (by decide)).trans v_30)
  have v_21 : mf_53 21 = .int (-1) := (congrFun emf_53 21).symm.trans (va_up_self _ _ _)
  generalize eh_54 : fU h_52 x (40, 0, .inr (8, mo mf_53)) = h_54 at hI
  have hX := hX.set (e := .inr (8, mo mf_53)) g_x (by decide); rw [eh_54] at hX
  have hF := hF.set (e := .inr (8, mo mf_53)) g_x (by decide); rw [eh_54] at hF
  have hW9 : fF (inR [40]) h_52 h_54 := by rw [← eh_54]; exact fF.rf.set g_x (by show _ ∈ _; decide)
  have hL := hL.keepS hW9
  have g_x : h_54 x = some (40, 0, .inr (8, mo mf_53)) := (congrFun eh_54 x).symm.trans (fU_self _ _ _)
  refine lv_aload_n hx hb d_MO_init_118 rfl (lv_at hl 0 rfl) ?_
  refine lv_iconst (v := 5) hx hb d_MO_init_119 (by decide) ?_
  have hzN := hI.2.2.2.1
  refine f_newa (atype := .int) (a0 := (5, .inl (fun _ => 0))) (cA := (G.2.1 0)) hx hb (hT _ w_81) rfl hI (hK.2 0 _ rfl).2 rfl (by decide) rfl (by decide) 65 0 (Nat.le_of_ble_eq_true rfl) (Nat.le_of_ble_eq_true rfl) d_MO_init_120 (fun q_55 H eq_55 zq_55 nq_55 hI => ?_)
  generalize eh_56 : fU h_54 q_55 (65, 0, .inl ((G.2.1 0), 5, .inl (fun _ => 0))) = h_56 at hI
  have hX := hX.new (e := .inl ((G.2.1 0), 5, .inl (fun _ => 0))) (r := 65) (o := 0) nq_55 (by omega); rw [eh_56] at hX
  have hF := hF.new (c := (65, 0, .inl ((G.2.1 0), 5, .inl (fun _ => 0)))) nq_55; rw [eh_56] at hF
  have hW9 : fF (inR []) h_54 h_56 := by rw [← eh_56]; exact fF.rf.new nq_55
  have hL := hL.keep0 hW9
  have g_x : h_56 x = some (40, 0, .inr (8, mo mf_53)) := (congrFun eh_56 x).symm.trans (fU_keep g_x (f_neN g_x nq_55))
  have g_q_55 : h_56 q_55 = some (65, 0, .inl ((G.2.1 0), 5, .inl (fun _ => 0))) := (congrFun eh_56 q_55).symm.trans (fU_self _ _ _)
  refine f_putF (C := "DutyRulesModel") (T := T_MO) (N := 40) (fs' := mo (va_up mf_53 24 (.ref q_55))) (v := .ref q_55) hx hb (fun w q => hT w (s_MO w q)) t_MO k_MO n_MO hown hK hI g_x (by decide) rfl 24 (by decide) (hT _ w_833) (fun _ q => q) rfl hnm rfl rfl rfl (by rw [mo_len]; decide) (mo_set _) d_MO_init_122 (fun H locs hI => ?_)
  generalize emf_57 : va_up mf_53 24 (.ref q_55) = mf_57 at hI
  have v_0 : mf_57 0 = .ref q_1 := (congrFun emf_57 0).symm.trans ((va_up_ne _ _ (by decide)).trans v_0)
  have v_1 : mf_57 1 = .int 0 := (congrFun emf_57 1).symm.trans ((va_up_ne _ _ (by decide)).trans v_1)
  have v_2 : mf_57 2 = .ref q_5 := (congrFun emf_57 2).symm.trans ((va_up_ne _ _ (by decide)).trans v_2)
  have v_3 : mf_57 3 = .ref q_9 := (congrFun emf_57 3).symm.trans ((va_up_ne _ _ (by decide)).trans v_3)
  have v_4 : mf_57 4 = .ref q_13 := (congrFun emf_57 4).symm.trans ((va_up_ne _ _ (by decide)).trans v_4)
  have v_5 : mf_57 5 = .ref q_17 := (congrFun emf_57 5).symm.trans ((va_up_ne _ _ (by decide)).trans v_5)
  have v_6 : mf_57 6 = .int 0 := (congrFun emf_57 6).symm.trans ((va_up_ne _ _ (by decide)).trans v_6)
  have v_7 : mf_57 7 = .ref q_21 := (congrFun emf_57 7).symm.trans ((va_up_ne _ _ (by decide)).trans v_7)
  have v_8 : mf_57 8 = .ref q_25 := (congrFun emf_57 8).symm.trans ((va_up_ne _ _ (by decide)).trans v_8)
  have v_9 : mf_57 9 = .ref q_29 := (congrFun emf_57 9).symm.trans ((va_up_ne _ _ (by decide)).trans v_9)
  have v_10 : mf_57 10 = .ref q_33 := (congrFun emf_57 10).symm.trans ((va_up_ne _ _ (by decide)).trans v_10)
  have v_11 : mf_57 11 = .ref q_37 := (congrFun emf_57 11).symm.trans ((va_up_ne _ _ (by decide)).trans v_11)
  have v_12 : mf_57 12 = .int 0 := (congrFun emf_57 12).symm.trans ((va_up_ne _ _ (by decide)).trans v_12)
  have v_13 : mf_57 13 = .long 0 := (congrFun emf_57 13).symm.trans ((va_up_ne _ _ (by decide)).trans v_13)
  have v_14 : mf_57 14 = .int 0 := (congrFun emf_57 14).symm.trans ((va_up_ne _ _ (by decide)).trans v_14)
  have v_15 : mf_57 15 = .ref q_41 := (congrFun emf_57 15).symm.trans ((va_up_ne _ _ (by decide)).trans v_15)
  have v_16 : mf_57 16 = .ref q_45 := (congrFun emf_57 16).symm.trans ((va_up_ne _ _ (by decide)).trans v_16)
  have v_17 : mf_57 17 = .ref q_49 := (congrFun emf_57 17).symm.trans ((va_up_ne _ _ (by decide)).trans v_17)
  have v_18 : mf_57 18 = .int 0 := (congrFun emf_57 18).symm.trans ((va_up_ne _ _ (by decide)).trans v_18)
  have v_19 : mf_57 19 = .long 0 := (congrFun emf_57 19).symm.trans ((va_up_ne _ _ (by decide)).trans v_19)
  have v_20 : mf_57 20 = .long 0 := (congrFun emf_57 20).symm.trans ((va_up_ne _ _ (by decide)).trans v_20)
  have v_21 : mf_57 21 = .int (-1) := (congrFun emf_57 21).symm.trans ((va_up_ne _ _ (by decide)).trans v_21)
  have v_22 : mf_57 22 = .int 0 := (congrFun emf_57 22).symm.trans ((va_up_ne _ _ (by decide)).trans v_22)
  have v_23 : mf_57 23 = .int 0 := (congrFun emf_57 23).symm.trans ((va_up_ne _ _ (by decide)).trans v_23)
  have v_30 : mf_57 30 = .int 0 := (congrFun emf_57 30).symm.trans ((va_up_ne _ _ (by decide)).trans v_30)
  have v_24 : mf_57 24 = .ref q_55 := (congrFun emf_57 24).symm.trans (va_up_self _ _ _)
  generalize eh_58 : fU h_56 x (40, 0, .inr (8, mo mf_57)) = h_58 at hI
  have hX := hX.set (e := .inr (8, mo mf_57)) g_x (by decide); rw [eh_58] at hX
  have hF := hF.set (e := .inr (8, mo mf_57)) g_x (by decide); rw [eh_58] at hF
  have g_q_55 : h_58 q_55 = some (65, 0, .inl ((G.2.1 0), 5, .inl (fun _ => 0))) := (congrFun eh_58 q_55).symm.trans (fU_keep g_q_55 (f_neR g_q_55 g_x (by decide)))
  have hW9 : fF (inR [40]) h_56 h_58 := by rw [← eh_58]; exact fF.rf.set g_x (by show _ ∈ _; decide)
  have hL := hL.keepS hW9
  have g_x : h_58 x = some (40, 0, .inr (8, mo mf_57)) := (congrFun eh_58 x).symm.trans (fU_self _ _ _)
  have hL := mI.add hL g_q_55 (show (65 : Nat) ≠ 40 by decide)
  clear g_q_55
  refine lv_aload_n hx hb d_MO_init_125 rfl (lv_at hl 0 rfl) ?_
  refine lv_iconst (v := 5) hx hb d_MO_init_126 (by decide) ?_
  have hzN := hI.2.2.2.1
  refine f_newa (atype := .int) (a0 := (5, .inl (fun _ => 0))) (cA := (G.2.1 0)) hx hb (hT _ w_81) rfl hI (hK.2 0 _ rfl).2 rfl (by decide) rfl (by decide) 66 0 (Nat.le_of_ble_eq_true rfl) (Nat.le_of_ble_eq_true rfl) d_MO_init_127 (fun q_59 H eq_59 zq_59 nq_59 hI => ?_)
  generalize eh_60 : fU h_58 q_59 (66, 0, .inl ((G.2.1 0), 5, .inl (fun _ => 0))) = h_60 at hI
  have hX := hX.new (e := .inl ((G.2.1 0), 5, .inl (fun _ => 0))) (r := 66) (o := 0) nq_59 (by omega); rw [eh_60] at hX
  have hF := hF.new (c := (66, 0, .inl ((G.2.1 0), 5, .inl (fun _ => 0)))) nq_59; rw [eh_60] at hF
  have hW9 : fF (inR []) h_58 h_60 := by rw [← eh_60]; exact fF.rf.new nq_59
  have hL := hL.keep0 hW9
  have g_x : h_60 x = some (40, 0, .inr (8, mo mf_57)) := (congrFun eh_60 x).symm.trans (fU_keep g_x (f_neN g_x nq_59))
  have g_q_59 : h_60 q_59 = some (66, 0, .inl ((G.2.1 0), 5, .inl (fun _ => 0))) := (congrFun eh_60 q_59).symm.trans (fU_self _ _ _)
  refine f_putF (C := "DutyRulesModel") (T := T_MO) (N := 40) (fs' := mo (va_up mf_57 25 (.ref q_59))) (v := .ref q_59) hx hb (fun w q => hT w (s_MO w q)) t_MO k_MO n_MO hown hK hI g_x (by decide) rfl 25 (by decide) (hT _ w_834) (fun _ q => q) rfl hnm rfl rfl rfl (by rw [mo_len]; decide) (mo_set _) d_MO_init_129 (fun H locs hI => ?_)
  generalize emf_61 : va_up mf_57 25 (.ref q_59) = mf_61 at hI
  have v_0 : mf_61 0 = .ref q_1 := (congrFun emf_61 0).symm.trans ((va_up_ne _ _ (by decide)).trans v_0)
  have v_1 : mf_61 1 = .int 0 := (congrFun emf_61 1).symm.trans ((va_up_ne _ _ (by decide)).trans v_1)
  have v_2 : mf_61 2 = .ref q_5 := (congrFun emf_61 2).symm.trans ((va_up_ne _ _ (by decide)).trans v_2)
  have v_3 : mf_61 3 = .ref q_9 := (congrFun emf_61 3).symm.trans ((va_up_ne _ _ (by decide)).trans v_3)
  have v_4 : mf_61 4 = .ref q_13 := (congrFun emf_61 4).symm.trans ((va_up_ne _ _ (by decide)).trans v_4)
  have v_5 : mf_61 5 = .ref q_17 := (congrFun emf_61 5).symm.trans ((va_up_ne _ _ (by decide)).trans v_5)
  have v_6 : mf_61 6 = .int 0 := (congrFun emf_61 6).symm.trans ((va_up_ne _ _ (by decide)).trans v_6)
  have v_7 : mf_61 7 = .ref q_21 := (congrFun emf_61 7).symm.trans ((va_up_ne _ _ (by decide)).trans v_7)
  have v_8 : mf_61 8 = .ref q_25 := (congrFun emf_61 8).symm.trans ((va_up_ne _ _ (by decide)).trans v_8)
  have v_9 : mf_61 9 = .ref q_29 := (congrFun emf_61 9).symm.trans ((va_up_ne _ _ (by decide)).trans v_9)
  have v_10 : mf_61 10 = .ref q_33 := (congrFun emf_61 10).symm.trans ((va_up_ne _ _ (by decide)).trans v_10)
  have v_11 : mf_61 11 = .ref q_37 := (congrFun emf_61 11).symm.trans ((va_up_ne _ _ (by decide)).trans v_11)
  have v_12 : mf_61 12 = .int 0 := (congrFun emf_61 12).symm.trans ((va_up_ne _ _ (by decide)).trans v_12)
  have v_13 : mf_61 13 = .long 0 := (congrFun emf_61 13).symm.trans ((va_up_ne _ _ (by decide)).trans v_13)
  have v_14 : mf_61 14 = .int 0 := (congrFun emf_61 14).symm.trans ((va_up_ne _ _ (by decide)).trans v_14)
  have v_15 : mf_61 15 = .ref q_41 := (congrFun emf_61 15).symm.trans ((va_up_ne _ _ (by decide)).trans v_15)
  have v_16 : mf_61 16 = .ref q_45 := (congrFun emf_61 16).symm.trans ((va_up_ne _ _ (by decide)).trans v_16)
  have v_17 : mf_61 17 = .ref q_49 := (congrFun emf_61 17).symm.trans ((va_up_ne _ _ (by decide)).trans v_17)
  have v_18 : mf_61 18 = .int 0 := (congrFun emf_61 18).symm.trans ((va_up_ne _ _ (by decide)).trans v_18)
  have v_19 : mf_61 19 = .long 0 := (congrFun emf_61 19).symm.trans ((va_up_ne _ _ (by decide)).trans v_19)
  have v_20 : mf_61 20 = .long 0 := (congrFun emf_61 20).symm.trans ((va_up_ne _ _ (by decide)).trans v_20)
  have v_21 : mf_61 21 = .int (-1) := (congrFun emf_61 21).symm.trans ((va_up_ne _ _ (by decide)).trans v_21)
  have v_22 : mf_61 22 = .int 0 := (congrFun emf_61 22).symm.trans ((va_up_ne _ _ (by decide)).trans v_22)
  have v_23 : mf_61 23 = .int 0 := (congrFun emf_61 23).symm.trans ((va_up_ne _ _ (by decide)).trans v_23)
  have v_24 : mf_61 24 = .ref q_55 := (congrFun emf_61 24).symm.trans ((va_up_ne _ _ (by decide)).trans v_24)
  have v_30 : mf_61 30 = .int 0 := (congrFun emf_61 30).symm.trans ((va_up_ne _ _ (by decide)).trans v_30)
  have v_25 : mf_61 25 = .ref q_59 := (congrFun emf_61 25).symm.trans (va_up_self _ _ _)
  generalize eh_62 : fU h_60 x (40, 0, .inr (8, mo mf_61)) = h_62 at hI
  have hX := hX.set (e := .inr (8, mo mf_61)) g_x (by decide); rw [eh_62] at hX
  have hF := hF.set (e := .inr (8, mo mf_61)) g_x (by decide); rw [eh_62] at hF
  have g_q_59 : h_62 q_59 = some (66, 0, .inl ((G.2.1 0), 5, .inl (fun _ => 0))) := (congrFun eh_62 q_59).symm.trans (fU_keep g_q_59 (f_neR g_q_59 g_x (by decide)))
  have hW9 : fF (inR [40]) h_60 h_62 := by rw [← eh_62]; exact fF.rf.set g_x (by show _ ∈ _; decide)
  have hL := hL.keepS hW9
  have g_x : h_62 x = some (40, 0, .inr (8, mo mf_61)) := (congrFun eh_62 x).symm.trans (fU_self _ _ _)
  have hL := mI.add hL g_q_59 (show (66 : Nat) ≠ 40 by decide)
  clear g_q_59
  refine lv_aload_n hx hb d_MO_init_132 rfl (lv_at hl 0 rfl) ?_
  refine lv_iconst (v := 5) hx hb d_MO_init_133 (by decide) ?_
  have hzN := hI.2.2.2.1
  refine f_newa (atype := .long) (a0 := (5, .inr (.inl (fun _ => 0)))) (cA := (G.2.1 1)) hx hb (hT _ w_143) rfl hI (hK.2 1 _ rfl).2 rfl (by decide) rfl (by decide) 67 0 (Nat.le_of_ble_eq_true rfl) (Nat.le_of_ble_eq_true rfl) d_MO_init_134 (fun q_63 H eq_63 zq_63 nq_63 hI => ?_)
  generalize eh_64 : fU h_62 q_63 (67, 0, .inl ((G.2.1 1), 5, .inr (.inl (fun _ => 0)))) = h_64 at hI
  have hX := hX.new (e := .inl ((G.2.1 1), 5, .inr (.inl (fun _ => 0)))) (r := 67) (o := 0) nq_63 (by omega); rw [eh_64] at hX
  have hF := hF.new (c := (67, 0, .inl ((G.2.1 1), 5, .inr (.inl (fun _ => 0))))) nq_63; rw [eh_64] at hF
  have hW9 : fF (inR []) h_62 h_64 := by rw [← eh_64]; exact fF.rf.new nq_63
  have hL := hL.keep0 hW9
  have g_x : h_64 x = some (40, 0, .inr (8, mo mf_61)) := (congrFun eh_64 x).symm.trans (fU_keep g_x (f_neN g_x nq_63))
  have g_q_63 : h_64 q_63 = some (67, 0, .inl ((G.2.1 1), 5, .inr (.inl (fun _ => 0)))) := (congrFun eh_64 q_63).symm.trans (fU_self _ _ _)
  refine f_putF (C := "DutyRulesModel") (T := T_MO) (N := 40) (fs' := mo (va_up mf_61 26 (.ref q_63))) (v := .ref q_63) hx hb (fun w q => hT w (s_MO w q)) t_MO k_MO n_MO hown hK hI g_x (by decide) rfl 26 (by decide) (hT _ w_835) (fun _ q => q) rfl hnm rfl rfl rfl (by rw [mo_len]; decide) (mo_set _) d_MO_init_136 (fun H locs hI => ?_)
  generalize emf_65 : va_up mf_61 26 (.ref q_63) = mf_65 at hI
  have v_0 : mf_65 0 = .ref q_1 := (congrFun emf_65 0).symm.trans ((va_up_ne _ _ (by decide)).trans v_0)
  have v_1 : mf_65 1 = .int 0 := (congrFun emf_65 1).symm.trans ((va_up_ne _ _ (by decide)).trans v_1)
  have v_2 : mf_65 2 = .ref q_5 := (congrFun emf_65 2).symm.trans ((va_up_ne _ _ (by decide)).trans v_2)
  have v_3 : mf_65 3 = .ref q_9 := (congrFun emf_65 3).symm.trans ((va_up_ne _ _ (by decide)).trans v_3)
  have v_4 : mf_65 4 = .ref q_13 := (congrFun emf_65 4).symm.trans ((va_up_ne _ _ (by decide)).trans v_4)
  have v_5 : mf_65 5 = .ref q_17 := (congrFun emf_65 5).symm.trans ((va_up_ne _ _ (by decide)).trans v_5)
  have v_6 : mf_65 6 = .int 0 := (congrFun emf_65 6).symm.trans ((va_up_ne _ _ (by decide)).trans v_6)
  have v_7 : mf_65 7 = .ref q_21 := (congrFun emf_65 7).symm.trans ((va_up_ne _ _ (by decide)).trans v_7)
  have v_8 : mf_65 8 = .ref q_25 := (congrFun emf_65 8).symm.trans ((va_up_ne _ _ (by decide)).trans v_8)
  have v_9 : mf_65 9 = .ref q_29 := (congrFun emf_65 9).symm.trans ((va_up_ne _ _ (by decide)).trans v_9)
  have v_10 : mf_65 10 = .ref q_33 := (congrFun emf_65 10).symm.trans ((va_up_ne _ _ (by decide)).trans v_10)
  have v_11 : mf_65 11 = .ref q_37 := (congrFun emf_65 11).symm.trans ((va_up_ne _ _ (by decide)).trans v_11)
  have v_12 : mf_65 12 = .int 0 := (congrFun emf_65 12).symm.trans ((va_up_ne _ _ (by decide)).trans v_12)
  have v_13 : mf_65 13 = .long 0 := (congrFun emf_65 13).symm.trans ((va_up_ne _ _ (by decide)).trans v_13)
  have v_14 : mf_65 14 = .int 0 := (congrFun emf_65 14).symm.trans ((va_up_ne _ _ (by decide)).trans v_14)
  have v_15 : mf_65 15 = .ref q_41 := (congrFun emf_65 15).symm.trans ((va_up_ne _ _ (by decide)).trans v_15)
  have v_16 : mf_65 16 = .ref q_45 := (congrFun emf_65 16).symm.trans ((va_up_ne _ _ (by decide)).trans v_16)
  have v_17 : mf_65 17 = .ref q_49 := (congrFun emf_65 17).symm.trans ((va_up_ne _ _ (by decide)).trans v_17)
  have v_18 : mf_65 18 = .int 0 := (congrFun emf_65 18).symm.trans ((va_up_ne _ _ (by decide)).trans v_18)
  have v_19 : mf_65 19 = .long 0 := (congrFun emf_65 19).symm.trans ((va_up_ne _ _ (by decide)).trans v_19)
  have v_20 : mf_65 20 = .long 0 := (congrFun emf_65 20).symm.trans ((va_up_ne _ _ (by decide)).trans v_20)
  have v_21 : mf_65 21 = .int (-1) := (congrFun emf_65 21).symm.trans ((va_up_ne _ _ (by decide)).trans v_21)
  have v_22 : mf_65 22 = .int 0 := (congrFun emf_65 22).symm.trans ((va_up_ne _ _ (by decide)).trans v_22)
  have v_23 : mf_65 23 = .int 0 := (congrFun emf_65 23).symm.trans ((va_up_ne _ _ (by decide)).trans v_23)
  have v_24 : mf_65 24 = .ref q_55 := (congrFun emf_65 24).symm.trans ((va_up_ne _ _ (by decide)).trans v_24)
  have v_25 : mf_65 25 = .ref q_59 := (congrFun emf_65 25).symm.trans ((va_up_ne _ _ (by decide)).trans v_25)
  have v_30 : mf_65 30 = .int 0 := (congrFun emf_65 30).symm.trans ((va_up_ne _ _ (by decide)).trans v_30)
  have v_26 : mf_65 26 = .ref q_63 := (congrFun emf_65 26).symm.trans (va_up_self _ _ _)
  generalize eh_66 : fU h_64 x (40, 0, .inr (8, mo mf_65)) = h_66 at hI
  have hX := hX.set (e := .inr (8, mo mf_65)) g_x (by decide); rw [eh_66] at hX
  have hF := hF.set (e := .inr (8, mo mf_65)) g_x (by decide); rw [eh_66] at hF
  have g_q_63 : h_66 q_63 = some (67, 0, .inl ((G.2.1 1), 5, .inr (.inl (fun _ => 0)))) := (congrFun eh_66 q_63).symm.trans (fU_keep g_q_63 (f_neR g_q_63 g_x (by decide)))
  have hW9 : fF (inR [40]) h_64 h_66 := by rw [← eh_66]; exact fF.rf.set g_x (by show _ ∈ _; decide)
  have hL := hL.keepS hW9
  have g_x : h_66 x = some (40, 0, .inr (8, mo mf_65)) := (congrFun eh_66 x).symm.trans (fU_self _ _ _)
  have hL := mI.add hL g_q_63 (show (67 : Nat) ≠ 40 by decide)
  clear g_q_63
  refine lv_aload_n hx hb d_MO_init_139 rfl (lv_at hl 0 rfl) ?_
  refine lv_ldc (v := 90030) hx hb hown (hT _ w_808) d_MO_init_140 ?_
  have hzN := hI.2.2.2.1
  refine f_newa (atype := .int) (a0 := (90030, .inl (fun _ => 0))) (cA := (G.2.1 0)) hx hb (hT _ w_81) rfl hI (hK.2 0 _ rfl).2 rfl (by decide) rfl (by decide) 68 0 (Nat.le_of_ble_eq_true rfl) (Nat.le_of_ble_eq_true rfl) d_MO_init_142 (fun q_67 H eq_67 zq_67 nq_67 hI => ?_)
  generalize eh_68 : fU h_66 q_67 (68, 0, .inl ((G.2.1 0), 90030, .inl (fun _ => 0))) = h_68 at hI
  have hX := hX.new (e := .inl ((G.2.1 0), 90030, .inl (fun _ => 0))) (r := 68) (o := 0) nq_67 (by omega); rw [eh_68] at hX
  have hF := hF.new (c := (68, 0, .inl ((G.2.1 0), 90030, .inl (fun _ => 0)))) nq_67; rw [eh_68] at hF
  have hW9 : fF (inR []) h_66 h_68 := by rw [← eh_68]; exact fF.rf.new nq_67
  have hL := hL.keep0 hW9
  have g_x : h_68 x = some (40, 0, .inr (8, mo mf_65)) := (congrFun eh_68 x).symm.trans (fU_keep g_x (f_neN g_x nq_67))
  have g_q_67 : h_68 q_67 = some (68, 0, .inl ((G.2.1 0), 90030, .inl (fun _ => 0))) := (congrFun eh_68 q_67).symm.trans (fU_self _ _ _)
  refine f_putF (C := "DutyRulesModel") (T := T_MO) (N := 40) (fs' := mo (va_up mf_65 27 (.ref q_67))) (v := .ref q_67) hx hb (fun w q => hT w (s_MO w q)) t_MO k_MO n_MO hown hK hI g_x (by decide) rfl 27 (by decide) (hT _ w_836) (fun _ q => q) rfl hnm rfl rfl rfl (by rw [mo_len]; decide) (mo_set _) d_MO_init_144 (fun H locs hI => ?_)
  generalize emf_69 : va_up mf_65 27 (.ref q_67) = mf_69 at hI
  have v_0 : mf_69 0 = .ref q_1 := (congrFun emf_69 0).symm.trans ((va_up_ne _ _ (by decide)).trans v_0)
  have v_1 : mf_69 1 = .int 0 := (congrFun emf_69 1).symm.trans ((va_up_ne _ _ (by decide)).trans v_1)
  have v_2 : mf_69 2 = .ref q_5 := (congrFun emf_69 2).symm.trans ((va_up_ne _ _ (by decide)).trans v_2)
  have v_3 : mf_69 3 = .ref q_9 := (congrFun emf_69 3).symm.trans ((va_up_ne _ _ (by decide)).trans v_3)
  have v_4 : mf_69 4 = .ref q_13 := (congrFun emf_69 4).symm.trans ((va_up_ne _ _ (by decide)).trans v_4)
  have v_5 : mf_69 5 = .ref q_17 := (congrFun emf_69 5).symm.trans ((va_up_ne _ _ (by decide)).trans v_5)
  have v_6 : mf_69 6 = .int 0 := (congrFun emf_69 6).symm.trans ((va_up_ne _ _ (by decide)).trans v_6)
  have v_7 : mf_69 7 = .ref q_21 := (congrFun emf_69 7).symm.trans ((va_up_ne _ _ (by decide)).trans v_7)
  have v_8 : mf_69 8 = .ref q_25 := (congrFun emf_69 8).symm.trans ((va_up_ne _ _ (by decide)).trans v_8)
  have v_9 : mf_69 9 = .ref q_29 := (congrFun emf_69 9).symm.trans ((va_up_ne _ _ (by decide)).trans v_9)
  have v_10 : mf_69 10 = .ref q_33 := (congrFun emf_69 10).symm.trans ((va_up_ne _ _ (by decide)).trans v_10)
  have v_11 : mf_69 11 = .ref q_37 := (congrFun emf_69 11).symm.trans ((va_up_ne _ _ (by decide)).trans v_11)
  have v_12 : mf_69 12 = .int 0 := (congrFun emf_69 12).symm.trans ((va_up_ne _ _ (by decide)).trans v_12)
  have v_13 : mf_69 13 = .long 0 := (congrFun emf_69 13).symm.trans ((va_up_ne _ _ (by decide)).trans v_13)
  have v_14 : mf_69 14 = .int 0 := (congrFun emf_69 14).symm.trans ((va_up_ne _ _ (by decide)).trans v_14)
  have v_15 : mf_69 15 = .ref q_41 := (congrFun emf_69 15).symm.trans ((va_up_ne _ _ (by decide)).trans v_15)
  have v_16 : mf_69 16 = .ref q_45 := (congrFun emf_69 16).symm.trans ((va_up_ne _ _ (by decide)).trans v_16)
  have v_17 : mf_69 17 = .ref q_49 := (congrFun emf_69 17).symm.trans ((va_up_ne _ _ (by decide)).trans v_17)
  have v_18 : mf_69 18 = .int 0 := (congrFun emf_69 18).symm.trans ((va_up_ne _ _ (by decide)).trans v_18)
  have v_19 : mf_69 19 = .long 0 := (congrFun emf_69 19).symm.trans ((va_up_ne _ _ (by decide)).trans v_19)
  have v_20 : mf_69 20 = .long 0 := (congrFun emf_69 20).symm.trans ((va_up_ne _ _ (by decide)).trans v_20)
  have v_21 : mf_69 21 = .int (-1) := (congrFun emf_69 21).symm.trans ((va_up_ne _ _ (by decide)).trans v_21)
  have v_22 : mf_69 22 = .int 0 := (congrFun emf_69 22).symm.trans ((va_up_ne _ _ (by decide)).trans v_22)
  have v_23 : mf_69 23 = .int 0 := (congrFun emf_69 23).symm.trans ((va_up_ne _ _ (by decide)).trans v_23)
  have v_24 : mf_69 24 = .ref q_55 := (congrFun emf_69 24).symm.trans ((va_up_ne _ _ (by decide)).trans v_24)
  have v_25 : mf_69 25 = .ref q_59 := (congrFun emf_69 25).symm.trans ((va_up_ne _ _ (by decide)).trans v_25)
  have v_26 : mf_69 26 = .ref q_63 := (congrFun emf_69 26).symm.trans ((va_up_ne _ _ (by decide)).trans v_26)
  have v_30 : mf_69 30 = .int 0 := (congrFun emf_69 30).symm.trans ((va_up_ne _ _ (by decide)).trans v_30)
  have v_27 : mf_69 27 = .ref q_67 := (congrFun emf_69 27).symm.trans (va_up_self _ _ _)
  generalize eh_70 : fU h_68 x (40, 0, .inr (8, mo mf_69)) = h_70 at hI
  have hX := hX.set (e := .inr (8, mo mf_69)) g_x (by decide); rw [eh_70] at hX
  have hF := hF.set (e := .inr (8, mo mf_69)) g_x (by decide); rw [eh_70] at hF
  have g_q_67 : h_70 q_67 = some (68, 0, .inl ((G.2.1 0), 90030, .inl (fun _ => 0))) := (congrFun eh_70 q_67).symm.trans (fU_keep g_q_67 (f_neR g_q_67 g_x (by decide)))
  have hW9 : fF (inR [40]) h_68 h_70 := by rw [← eh_70]; exact fF.rf.set g_x (by show _ ∈ _; decide)
  have hL := hL.keepS hW9
  have g_x : h_70 x = some (40, 0, .inr (8, mo mf_69)) := (congrFun eh_70 x).symm.trans (fU_self _ _ _)
  have hL := mI.add hL g_q_67 (show (68 : Nat) ≠ 40 by decide)
  clear g_q_67
  refine lv_aload_n hx hb d_MO_init_147 rfl (lv_at hl 0 rfl) ?_
  refine lv_ldc (v := 90030) hx hb hown (hT _ w_808) d_MO_init_148 ?_
  have hzN := hI.2.2.2.1
  refine f_newa (atype := .long) (a0 := (90030, .inr (.inl (fun _ => 0)))) (cA := (G.2.1 1)) hx hb (hT _ w_143) rfl hI (hK.2 1 _ rfl).2 rfl (by decide) rfl (by decide) 69 0 (Nat.le_of_ble_eq_true rfl) (Nat.le_of_ble_eq_true rfl) d_MO_init_150 (fun q_71 H eq_71 zq_71 nq_71 hI => ?_)
  generalize eh_72 : fU h_70 q_71 (69, 0, .inl ((G.2.1 1), 90030, .inr (.inl (fun _ => 0)))) = h_72 at hI
  have hX := hX.new (e := .inl ((G.2.1 1), 90030, .inr (.inl (fun _ => 0)))) (r := 69) (o := 0) nq_71 (by omega); rw [eh_72] at hX
  have hF := hF.new (c := (69, 0, .inl ((G.2.1 1), 90030, .inr (.inl (fun _ => 0))))) nq_71; rw [eh_72] at hF
  have hW9 : fF (inR []) h_70 h_72 := by rw [← eh_72]; exact fF.rf.new nq_71
  have hL := hL.keep0 hW9
  have g_x : h_72 x = some (40, 0, .inr (8, mo mf_69)) := (congrFun eh_72 x).symm.trans (fU_keep g_x (f_neN g_x nq_71))
  have g_q_71 : h_72 q_71 = some (69, 0, .inl ((G.2.1 1), 90030, .inr (.inl (fun _ => 0)))) := (congrFun eh_72 q_71).symm.trans (fU_self _ _ _)
  refine f_putF (C := "DutyRulesModel") (T := T_MO) (N := 40) (fs' := mo (va_up mf_69 28 (.ref q_71))) (v := .ref q_71) hx hb (fun w q => hT w (s_MO w q)) t_MO k_MO n_MO hown hK hI g_x (by decide) rfl 28 (by decide) (hT _ w_837) (fun _ q => q) rfl hnm rfl rfl rfl (by rw [mo_len]; decide) (mo_set _) d_MO_init_152 (fun H locs hI => ?_)
  generalize emf_73 : va_up mf_69 28 (.ref q_71) = mf_73 at hI
  have v_0 : mf_73 0 = .ref q_1 := (congrFun emf_73 0).symm.trans ((va_up_ne _ _ (by decide)).trans v_0)
  have v_1 : mf_73 1 = .int 0 := (congrFun emf_73 1).symm.trans ((va_up_ne _ _ (by decide)).trans v_1)
  have v_2 : mf_73 2 = .ref q_5 := (congrFun emf_73 2).symm.trans ((va_up_ne _ _ (by decide)).trans v_2)
  have v_3 : mf_73 3 = .ref q_9 := (congrFun emf_73 3).symm.trans ((va_up_ne _ _ (by decide)).trans v_3)
  have v_4 : mf_73 4 = .ref q_13 := (congrFun emf_73 4).symm.trans ((va_up_ne _ _ (by decide)).trans v_4)
  have v_5 : mf_73 5 = .ref q_17 := (congrFun emf_73 5).symm.trans ((va_up_ne _ _ (by decide)).trans v_5)
  have v_6 : mf_73 6 = .int 0 := (congrFun emf_73 6).symm.trans ((va_up_ne _ _ (by decide)).trans v_6)
  have v_7 : mf_73 7 = .ref q_21 := (congrFun emf_73 7).symm.trans ((va_up_ne _ _ (by decide)).trans v_7)
  have v_8 : mf_73 8 = .ref q_25 := (congrFun emf_73 8).symm.trans ((va_up_ne _ _ (by decide)).trans v_8)
  have v_9 : mf_73 9 = .ref q_29 := (congrFun emf_73 9).symm.trans ((va_up_ne _ _ (by decide)).trans v_9)
  have v_10 : mf_73 10 = .ref q_33 := (congrFun emf_73 10).symm.trans ((va_up_ne _ _ (by decide)).trans v_10)
  have v_11 : mf_73 11 = .ref q_37 := (congrFun emf_73 11).symm.trans ((va_up_ne _ _ (by decide)).trans v_11)
  have v_12 : mf_73 12 = .int 0 := (congrFun emf_73 12).symm.trans ((va_up_ne _ _ (by decide)).trans v_12)
  have v_13 : mf_73 13 = .long 0 := (congrFun emf_73 13).symm.trans ((va_up_ne _ _ (by decide)).trans v_13)
  have v_14 : mf_73 14 = .int 0 := (congrFun emf_73 14).symm.trans ((va_up_ne _ _ (by decide)).trans v_14)
  have v_15 : mf_73 15 = .ref q_41 := (congrFun emf_73 15).symm.trans ((va_up_ne _ _ (by decide)).trans v_15)
  have v_16 : mf_73 16 = .ref q_45 := (congrFun emf_73 16).symm.trans ((va_up_ne _ _ (by decide)).trans v_16)
  have v_17 : mf_73 17 = .ref q_49 := (congrFun emf_73 17).symm.trans ((va_up_ne _ _ (by decide)).trans v_17)
  have v_18 : mf_73 18 = .int 0 := (congrFun emf_73 18).symm.trans ((va_up_ne _ _ (by decide)).trans v_18)
  have v_19 : mf_73 19 = .long 0 := (congrFun emf_73 19).symm.trans ((va_up_ne _ _ (by decide)).trans v_19)
  have v_20 : mf_73 20 = .long 0 := (congrFun emf_73 20).symm.trans ((va_up_ne _ _ (by decide)).trans v_20)
  have v_21 : mf_73 21 = .int (-1) := (congrFun emf_73 21).symm.trans ((va_up_ne _ _ (by decide)).trans v_21)
  have v_22 : mf_73 22 = .int 0 := (congrFun emf_73 22).symm.trans ((va_up_ne _ _ (by decide)).trans v_22)
  have v_23 : mf_73 23 = .int 0 := (congrFun emf_73 23).symm.trans ((va_up_ne _ _ (by decide)).trans v_23)
  have v_24 : mf_73 24 = .ref q_55 := (congrFun emf_73 24).symm.trans ((va_up_ne _ _ (by decide)).trans v_24)
  have v_25 : mf_73 25 = .ref q_59 := (congrFun emf_73 25).symm.trans ((va_up_ne _ _ (by decide)).trans v_25)
  have v_26 : mf_73 26 = .ref q_63 := (congrFun emf_73 26).symm.trans ((va_up_ne _ _ (by decide)).trans v_26)
  have v_27 : mf_73 27 = .ref q_67 := (congrFun emf_73 27).symm.trans ((va_up_ne _ _ (by decide)).trans v_27)
  have v_30 : mf_73 30 = .int 0 := (congrFun emf_73 30).symm.trans ((va_up_ne _ _ (by decide)).trans v_30)
  have v_28 : mf_73 28 = .ref q_71 := (congrFun emf_73 28).symm.trans (va_up_self _ _ _)
  generalize eh_74 : fU h_72 x (40, 0, .inr (8, mo mf_73)) = h_74 at hI
  have hX := hX.set (e := .inr (8, mo mf_73)) g_x (by decide); rw [eh_74] at hX
  have hF := hF.set (e := .inr (8, mo mf_73)) g_x (by decide); rw [eh_74] at hF
  have g_q_71 : h_74 q_71 = some (69, 0, .inl ((G.2.1 1), 90030, .inr (.inl (fun _ => 0)))) := (congrFun eh_74 q_71).symm.trans (fU_keep g_q_71 (f_neR g_q_71 g_x (by decide)))
  have hW9 : fF (inR [40]) h_72 h_74 := by rw [← eh_74]; exact fF.rf.set g_x (by show _ ∈ _; decide)
  have hL := hL.keepS hW9
  have g_x : h_74 x = some (40, 0, .inr (8, mo mf_73)) := (congrFun eh_74 x).symm.trans (fU_self _ _ _)
  have hL := mI.add hL g_q_71 (show (69 : Nat) ≠ 40 by decide)
  clear g_q_71
  refine lv_aload_n hx hb d_MO_init_155 rfl (lv_at hl 0 rfl) ?_
  refine lv_sipush (v := 3001) hx hb d_MO_init_156 (by decide) ?_
  have hzN := hI.2.2.2.1
  refine f_newa (atype := .boolean) (a0 := (3001, .inl (fun _ => 0))) (cA := (G.2.1 2)) hx hb (hT _ w_742) rfl hI (hK.2 2 _ rfl).2 rfl (by decide) rfl (by decide) 70 0 (Nat.le_of_ble_eq_true rfl) (Nat.le_of_ble_eq_true rfl) d_MO_init_159 (fun q_75 H eq_75 zq_75 nq_75 hI => ?_)
  generalize eh_76 : fU h_74 q_75 (70, 0, .inl ((G.2.1 2), 3001, .inl (fun _ => 0))) = h_76 at hI
  have hX := hX.new (e := .inl ((G.2.1 2), 3001, .inl (fun _ => 0))) (r := 70) (o := 0) nq_75 (by omega); rw [eh_76] at hX
  have hF := hF.new (c := (70, 0, .inl ((G.2.1 2), 3001, .inl (fun _ => 0)))) nq_75; rw [eh_76] at hF
  have hW9 : fF (inR []) h_74 h_76 := by rw [← eh_76]; exact fF.rf.new nq_75
  have hL := hL.keep0 hW9
  have g_x : h_76 x = some (40, 0, .inr (8, mo mf_73)) := (congrFun eh_76 x).symm.trans (fU_keep g_x (f_neN g_x nq_75))
  have g_q_75 : h_76 q_75 = some (70, 0, .inl ((G.2.1 2), 3001, .inl (fun _ => 0))) := (congrFun eh_76 q_75).symm.trans (fU_self _ _ _)
  refine f_putF (C := "DutyRulesModel") (T := T_MO) (N := 40) (fs' := mo (va_up mf_73 29 (.ref q_75))) (v := .ref q_75) hx hb (fun w q => hT w (s_MO w q)) t_MO k_MO n_MO hown hK hI g_x (by decide) rfl 29 (by decide) (hT _ w_838) (fun _ q => q) rfl hnm rfl rfl rfl (by rw [mo_len]; decide) (mo_set _) d_MO_init_161 (fun H locs hI => ?_)
  generalize emf_77 : va_up mf_73 29 (.ref q_75) = mf_77 at hI
  have v_0 : mf_77 0 = .ref q_1 := (congrFun emf_77 0).symm.trans ((va_up_ne _ _ (by decide)).trans v_0)
  have v_1 : mf_77 1 = .int 0 := (congrFun emf_77 1).symm.trans ((va_up_ne _ _ (by decide)).trans v_1)
  have v_2 : mf_77 2 = .ref q_5 := (congrFun emf_77 2).symm.trans ((va_up_ne _ _ (by decide)).trans v_2)
  have v_3 : mf_77 3 = .ref q_9 := (congrFun emf_77 3).symm.trans ((va_up_ne _ _ (by decide)).trans v_3)
  have v_4 : mf_77 4 = .ref q_13 := (congrFun emf_77 4).symm.trans ((va_up_ne _ _ (by decide)).trans v_4)
  have v_5 : mf_77 5 = .ref q_17 := (congrFun emf_77 5).symm.trans ((va_up_ne _ _ (by decide)).trans v_5)
  have v_6 : mf_77 6 = .int 0 := (congrFun emf_77 6).symm.trans ((va_up_ne _ _ (by decide)).trans v_6)
  have v_7 : mf_77 7 = .ref q_21 := (congrFun emf_77 7).symm.trans ((va_up_ne _ _ (by decide)).trans v_7)
  have v_8 : mf_77 8 = .ref q_25 := (congrFun emf_77 8).symm.trans ((va_up_ne _ _ (by decide)).trans v_8)
  have v_9 : mf_77 9 = .ref q_29 := (congrFun emf_77 9).symm.trans ((va_up_ne _ _ (by decide)).trans v_9)
  have v_10 : mf_77 10 = .ref q_33 := (congrFun emf_77 10).symm.trans ((va_up_ne _ _ (by decide)).trans v_10)
  have v_11 : mf_77 11 = .ref q_37 := (congrFun emf_77 11).symm.trans ((va_up_ne _ _ (by decide)).trans v_11)
  have v_12 : mf_77 12 = .int 0 := (congrFun emf_77 12).symm.trans ((va_up_ne _ _ (by decide)).trans v_12)
  have v_13 : mf_77 13 = .long 0 := (congrFun emf_77 13).symm.trans ((va_up_ne _ _ (by decide)).trans v_13)
  have v_14 : mf_77 14 = .int 0 := (congrFun emf_77 14).symm.trans ((va_up_ne _ _ (by decide)).trans v_14)
  have v_15 : mf_77 15 = .ref q_41 := (congrFun emf_77 15).symm.trans ((va_up_ne _ _ (by decide)).trans v_15)
  have v_16 : mf_77 16 = .ref q_45 := (congrFun emf_77 16).symm.trans ((va_up_ne _ _ (by decide)).trans v_16)
  have v_17 : mf_77 17 = .ref q_49 := (congrFun emf_77 17).symm.trans ((va_up_ne _ _ (by decide)).trans v_17)
  have v_18 : mf_77 18 = .int 0 := (congrFun emf_77 18).symm.trans ((va_up_ne _ _ (by decide)).trans v_18)
  have v_19 : mf_77 19 = .long 0 := (congrFun emf_77 19).symm.trans ((va_up_ne _ _ (by decide)).trans v_19)
  have v_20 : mf_77 20 = .long 0 := (congrFun emf_77 20).symm.trans ((va_up_ne _ _ (by decide)).trans v_20)
  have v_21 : mf_77 21 = .int (-1) := (congrFun emf_77 21).symm.trans ((va_up_ne _ _ (by decide)).trans v_21)
  have v_22 : mf_77 22 = .int 0 := (congrFun emf_77 22).symm.trans ((va_up_ne _ _ (by decide)).trans v_22)
  have v_23 : mf_77 23 = .int 0 := (congrFun emf_77 23).symm.trans ((va_up_ne _ _ (by decide)).trans v_23)
  have v_24 : mf_77 24 = .ref q_55 := (congrFun emf_77 24).symm.trans ((va_up_ne _ _ (by decide)).trans v_24)
  have v_25 : mf_77 25 = .ref q_59 := (congrFun emf_77 25).symm.trans ((va_up_ne _ _ (by decide)).trans v_25)
  have v_26 : mf_77 26 = .ref q_63 := (congrFun emf_77 26).symm.trans ((va_up_ne _ _ (by decide)).trans v_26)
  have v_27 : mf_77 27 = .ref q_67 := (congrFun emf_77 27).symm.trans ((va_up_ne _ _ (by decide)).trans v_27)
  have v_28 : mf_77 28 = .ref q_71 := (congrFun emf_77 28).symm.trans ((va_up_ne _ _ (by decide)).trans v_28)
  have v_30 : mf_77 30 = .int 0 := (congrFun emf_77 30).symm.trans ((va_up_ne _ _ (by decide)).trans v_30)
  have v_29 : mf_77 29 = .ref q_75 := (congrFun emf_77 29).symm.trans (va_up_self _ _ _)
  generalize eh_78 : fU h_76 x (40, 0, .inr (8, mo mf_77)) = h_78 at hI
  have hX := hX.set (e := .inr (8, mo mf_77)) g_x (by decide); rw [eh_78] at hX
  have hF := hF.set (e := .inr (8, mo mf_77)) g_x (by decide); rw [eh_78] at hF
  have g_q_75 : h_78 q_75 = some (70, 0, .inl ((G.2.1 2), 3001, .inl (fun _ => 0))) := (congrFun eh_78 q_75).symm.trans (fU_keep g_q_75 (f_neR g_q_75 g_x (by decide)))
  have hW9 : fF (inR [40]) h_76 h_78 := by rw [← eh_78]; exact fF.rf.set g_x (by show _ ∈ _; decide)
  have hL := hL.keepS hW9
  have g_x : h_78 x = some (40, 0, .inr (8, mo mf_77)) := (congrFun eh_78 x).symm.trans (fU_self _ _ _)
  have hL := mI.add hL g_q_75 (show (70 : Nat) ≠ 40 by decide)
  clear g_q_75
  refine lv_aload_n hx hb d_MO_init_164 rfl (lv_at hl 0 rfl) ?_
  refine lv_bipush (v := 30) hx hb d_MO_init_165 (by decide) ?_
  have hzN := hI.2.2.2.1
  refine f_newa (atype := .int) (a0 := (30, .inl (fun _ => 0))) (cA := (G.2.1 0)) hx hb (hT _ w_81) rfl hI (hK.2 0 _ rfl).2 rfl (by decide) rfl (by decide) 72 0 (Nat.le_of_ble_eq_true rfl) (Nat.le_of_ble_eq_true rfl) d_MO_init_167 (fun q_79 H eq_79 zq_79 nq_79 hI => ?_)
  generalize eh_80 : fU h_78 q_79 (72, 0, .inl ((G.2.1 0), 30, .inl (fun _ => 0))) = h_80 at hI
  have hX := hX.new (e := .inl ((G.2.1 0), 30, .inl (fun _ => 0))) (r := 72) (o := 0) nq_79 (by omega); rw [eh_80] at hX
  have hF := hF.new (c := (72, 0, .inl ((G.2.1 0), 30, .inl (fun _ => 0)))) nq_79; rw [eh_80] at hF
  have hW9 : fF (inR []) h_78 h_80 := by rw [← eh_80]; exact fF.rf.new nq_79
  have hL := hL.keep0 hW9
  have g_x : h_80 x = some (40, 0, .inr (8, mo mf_77)) := (congrFun eh_80 x).symm.trans (fU_keep g_x (f_neN g_x nq_79))
  have g_q_79 : h_80 q_79 = some (72, 0, .inl ((G.2.1 0), 30, .inl (fun _ => 0))) := (congrFun eh_80 q_79).symm.trans (fU_self _ _ _)
  refine f_putF (C := "DutyRulesModel") (T := T_MO) (N := 40) (fs' := mo (va_up mf_77 31 (.ref q_79))) (v := .ref q_79) hx hb (fun w q => hT w (s_MO w q)) t_MO k_MO n_MO hown hK hI g_x (by decide) rfl 31 (by decide) (hT _ w_840) (fun _ q => q) rfl hnm rfl rfl rfl (by rw [mo_len]; decide) (mo_set _) d_MO_init_169 (fun H locs hI => ?_)
  generalize emf_81 : va_up mf_77 31 (.ref q_79) = mf_81 at hI
  have v_0 : mf_81 0 = .ref q_1 := (congrFun emf_81 0).symm.trans ((va_up_ne _ _ (by decide)).trans v_0)
  have v_1 : mf_81 1 = .int 0 := (congrFun emf_81 1).symm.trans ((va_up_ne _ _ (by decide)).trans v_1)
  have v_2 : mf_81 2 = .ref q_5 := (congrFun emf_81 2).symm.trans ((va_up_ne _ _ (by decide)).trans v_2)
  have v_3 : mf_81 3 = .ref q_9 := (congrFun emf_81 3).symm.trans ((va_up_ne _ _ (by decide)).trans v_3)
  have v_4 : mf_81 4 = .ref q_13 := (congrFun emf_81 4).symm.trans ((va_up_ne _ _ (by decide)).trans v_4)
  have v_5 : mf_81 5 = .ref q_17 := (congrFun emf_81 5).symm.trans ((va_up_ne _ _ (by decide)).trans v_5)
  have v_6 : mf_81 6 = .int 0 := (congrFun emf_81 6).symm.trans ((va_up_ne _ _ (by decide)).trans v_6)
  have v_7 : mf_81 7 = .ref q_21 := (congrFun emf_81 7).symm.trans ((va_up_ne _ _ (by decide)).trans v_7)
  have v_8 : mf_81 8 = .ref q_25 := (congrFun emf_81 8).symm.trans ((va_up_ne _ _ (by decide)).trans v_8)
  have v_9 : mf_81 9 = .ref q_29 := (congrFun emf_81 9).symm.trans ((va_up_ne _ _ (by decide)).trans v_9)
  have v_10 : mf_81 10 = .ref q_33 := (congrFun emf_81 10).symm.trans ((va_up_ne _ _ (by decide)).trans v_10)
  have v_11 : mf_81 11 = .ref q_37 := (congrFun emf_81 11).symm.trans ((va_up_ne _ _ (by decide)).trans v_11)
  have v_12 : mf_81 12 = .int 0 := (congrFun emf_81 12).symm.trans ((va_up_ne _ _ (by decide)).trans v_12)
  have v_13 : mf_81 13 = .long 0 := (congrFun emf_81 13).symm.trans ((va_up_ne _ _ (by decide)).trans v_13)
  have v_14 : mf_81 14 = .int 0 := (congrFun emf_81 14).symm.trans ((va_up_ne _ _ (by decide)).trans v_14)
  have v_15 : mf_81 15 = .ref q_41 := (congrFun emf_81 15).symm.trans ((va_up_ne _ _ (by decide)).trans v_15)
  have v_16 : mf_81 16 = .ref q_45 := (congrFun emf_81 16).symm.trans ((va_up_ne _ _ (by decide)).trans v_16)
  have v_17 : mf_81 17 = .ref q_49 := (congrFun emf_81 17).symm.trans ((va_up_ne _ _ (by decide)).trans v_17)
  have v_18 : mf_81 18 = .int 0 := (congrFun emf_81 18).symm.trans ((va_up_ne _ _ (by decide)).trans v_18)
  have v_19 : mf_81 19 = .long 0 := (congrFun emf_81 19).symm.trans ((va_up_ne _ _ (by decide)).trans v_19)
  have v_20 : mf_81 20 = .long 0 := (congrFun emf_81 20).symm.trans ((va_up_ne _ _ (by decide)).trans v_20)
  have v_21 : mf_81 21 = .int (-1) := (congrFun emf_81 21).symm.trans ((va_up_ne _ _ (by decide)).trans v_21)
  have v_22 : mf_81 22 = .int 0 := (congrFun emf_81 22).symm.trans ((va_up_ne _ _ (by decide)).trans v_22)
  have v_23 : mf_81 23 = .int 0 := (congrFun emf_81 23).symm.trans ((va_up_ne _ _ (by decide)).trans v_23)
  have v_24 : mf_81 24 = .ref q_55 := (congrFun emf_81 24).symm.trans ((va_up_ne _ _ (by decide)).trans v_24)
  have v_25 : mf_81 25 = .ref q_59 := (congrFun emf_81 25).symm.trans ((va_up_ne _ _ (by decide)).trans v_25)
  have v_26 : mf_81 26 = .ref q_63 := (congrFun emf_81 26).symm.trans ((va_up_ne _ _ (by decide)).trans v_26)
  have v_27 : mf_81 27 = .ref q_67 := (congrFun emf_81 27).symm.trans ((va_up_ne _ _ (by decide)).trans v_27)
  have v_28 : mf_81 28 = .ref q_71 := (congrFun emf_81 28).symm.trans ((va_up_ne _ _ (by decide)).trans v_28)
  have v_29 : mf_81 29 = .ref q_75 := (congrFun emf_81 29).symm.trans ((va_up_ne _ _ (by decide)).trans v_29)
  have v_30 : mf_81 30 = .int 0 := (congrFun emf_81 30).symm.trans ((va_up_ne _ _ (by decide)).trans v_30)
  have v_31 : mf_81 31 = .ref q_79 := (congrFun emf_81 31).symm.trans (va_up_self _ _ _)
  generalize eh_82 : fU h_80 x (40, 0, .inr (8, mo mf_81)) = h_82 at hI
  have hX := hX.set (e := .inr (8, mo mf_81)) g_x (by decide); rw [eh_82] at hX
  have hF := hF.set (e := .inr (8, mo mf_81)) g_x (by decide); rw [eh_82] at hF
  have g_q_79 : h_82 q_79 = some (72, 0, .inl ((G.2.1 0), 30, .inl (fun _ => 0))) := (congrFun eh_82 q_79).symm.trans (fU_keep g_q_79 (f_neR g_q_79 g_x (by decide)))
  have hW9 : fF (inR [40]) h_80 h_82 := by rw [← eh_82]; exact fF.rf.set g_x (by show _ ∈ _; decide)
  have hL := hL.keepS hW9
  have g_x : h_82 x = some (40, 0, .inr (8, mo mf_81)) := (congrFun eh_82 x).symm.trans (fU_self _ _ _)
  have hL := mI.add hL g_q_79 (show (72 : Nat) ≠ 40 by decide)
  clear g_q_79
  refine lv_aload_n hx hb d_MO_init_172 rfl (lv_at hl 0 rfl) ?_
  refine lv_bipush (v := 30) hx hb d_MO_init_173 (by decide) ?_
  have hzN := hI.2.2.2.1
  refine f_newa (atype := .long) (a0 := (30, .inr (.inl (fun _ => 0)))) (cA := (G.2.1 1)) hx hb (hT _ w_143) rfl hI (hK.2 1 _ rfl).2 rfl (by decide) rfl (by decide) 73 0 (Nat.le_of_ble_eq_true rfl) (Nat.le_of_ble_eq_true rfl) d_MO_init_175 (fun q_83 H eq_83 zq_83 nq_83 hI => ?_)
  generalize eh_84 : fU h_82 q_83 (73, 0, .inl ((G.2.1 1), 30, .inr (.inl (fun _ => 0)))) = h_84 at hI
  have hX := hX.new (e := .inl ((G.2.1 1), 30, .inr (.inl (fun _ => 0)))) (r := 73) (o := 0) nq_83 (by omega); rw [eh_84] at hX
  have hF := hF.new (c := (73, 0, .inl ((G.2.1 1), 30, .inr (.inl (fun _ => 0))))) nq_83; rw [eh_84] at hF
  have hW9 : fF (inR []) h_82 h_84 := by rw [← eh_84]; exact fF.rf.new nq_83
  have hL := hL.keep0 hW9
  have g_x : h_84 x = some (40, 0, .inr (8, mo mf_81)) := (congrFun eh_84 x).symm.trans (fU_keep g_x (f_neN g_x nq_83))
  have g_q_83 : h_84 q_83 = some (73, 0, .inl ((G.2.1 1), 30, .inr (.inl (fun _ => 0)))) := (congrFun eh_84 q_83).symm.trans (fU_self _ _ _)
  refine f_putF (C := "DutyRulesModel") (T := T_MO) (N := 40) (fs' := mo (va_up mf_81 32 (.ref q_83))) (v := .ref q_83) hx hb (fun w q => hT w (s_MO w q)) t_MO k_MO n_MO hown hK hI g_x (by decide) rfl 32 (by decide) (hT _ w_841) (fun _ q => q) rfl hnm rfl rfl rfl (by rw [mo_len]; decide) (mo_set _) d_MO_init_177 (fun H locs hI => ?_)
  generalize emf_85 : va_up mf_81 32 (.ref q_83) = mf_85 at hI
  have v_0 : mf_85 0 = .ref q_1 := (congrFun emf_85 0).symm.trans ((va_up_ne _ _ (by decide)).trans v_0)
  have v_1 : mf_85 1 = .int 0 := (congrFun emf_85 1).symm.trans ((va_up_ne _ _ (by decide)).trans v_1)
  have v_2 : mf_85 2 = .ref q_5 := (congrFun emf_85 2).symm.trans ((va_up_ne _ _ (by decide)).trans v_2)
  have v_3 : mf_85 3 = .ref q_9 := (congrFun emf_85 3).symm.trans ((va_up_ne _ _ (by decide)).trans v_3)
  have v_4 : mf_85 4 = .ref q_13 := (congrFun emf_85 4).symm.trans ((va_up_ne _ _ (by decide)).trans v_4)
  have v_5 : mf_85 5 = .ref q_17 := (congrFun emf_85 5).symm.trans ((va_up_ne _ _ (by decide)).trans v_5)
  have v_6 : mf_85 6 = .int 0 := (congrFun emf_85 6).symm.trans ((va_up_ne _ _ (by decide)).trans v_6)
  have v_7 : mf_85 7 = .ref q_21 := (congrFun emf_85 7).symm.trans ((va_up_ne _ _ (by decide)).trans v_7)
  have v_8 : mf_85 8 = .ref q_25 := (congrFun emf_85 8).symm.trans ((va_up_ne _ _ (by decide)).trans v_8)
  have v_9 : mf_85 9 = .ref q_29 := (congrFun emf_85 9).symm.trans ((va_up_ne _ _ (by decide)).trans v_9)
  have v_10 : mf_85 10 = .ref q_33 := (congrFun emf_85 10).symm.trans ((va_up_ne _ _ (by decide)).trans v_10)
  have v_11 : mf_85 11 = .ref q_37 := (congrFun emf_85 11).symm.trans ((va_up_ne _ _ (by decide)).trans v_11)
  have v_12 : mf_85 12 = .int 0 := (congrFun emf_85 12).symm.trans ((va_up_ne _ _ (by decide)).trans v_12)
  have v_13 : mf_85 13 = .long 0 := (congrFun emf_85 13).symm.trans ((va_up_ne _ _ (by decide)).trans v_13)
  have v_14 : mf_85 14 = .int 0 := (congrFun emf_85 14).symm.trans ((va_up_ne _ _ (by decide)).trans v_14)
  have v_15 : mf_85 15 = .ref q_41 := (congrFun emf_85 15).symm.trans ((va_up_ne _ _ (by decide)).trans v_15)
  have v_16 : mf_85 16 = .ref q_45 := (congrFun emf_85 16).symm.trans ((va_up_ne _ _ (by decide)).trans v_16)
  have v_17 : mf_85 17 = .ref q_49 := (congrFun emf_85 17).symm.trans ((va_up_ne _ _ (by decide)).trans v_17)
  have v_18 : mf_85 18 = .int 0 := (congrFun emf_85 18).symm.trans ((va_up_ne _ _ (by decide)).trans v_18)
  have v_19 : mf_85 19 = .long 0 := (congrFun emf_85 19).symm.trans ((va_up_ne _ _ (by decide)).trans v_19)
  have v_20 : mf_85 20 = .long 0 := (congrFun emf_85 20).symm.trans ((va_up_ne _ _ (by decide)).trans v_20)
  have v_21 : mf_85 21 = .int (-1) := (congrFun emf_85 21).symm.trans ((va_up_ne _ _ (by decide)).trans v_21)
  have v_22 : mf_85 22 = .int 0 := (congrFun emf_85 22).symm.trans ((va_up_ne _ _ (by decide)).trans v_22)
  have v_23 : mf_85 23 = .int 0 := (congrFun emf_85 23).symm.trans ((va_up_ne _ _ (by decide)).trans v_23)
  have v_24 : mf_85 24 = .ref q_55 := (congrFun emf_85 24).symm.trans ((va_up_ne _ _ (by decide)).trans v_24)
  have v_25 : mf_85 25 = .ref q_59 := (congrFun emf_85 25).symm.trans ((va_up_ne _ _ (by decide)).trans v_25)
  have v_26 : mf_85 26 = .ref q_63 := (congrFun emf_85 26).symm.trans ((va_up_ne _ _ (by decide)).trans v_26)
  have v_27 : mf_85 27 = .ref q_67 := (congrFun emf_85 27).symm.trans ((va_up_ne _ _ (by decide)).trans v_27)
  have v_28 : mf_85 28 = .ref q_71 := (congrFun emf_85 28).symm.trans ((va_up_ne _ _ (by decide)).trans v_28)
  have v_29 : mf_85 29 = .ref q_75 := (congrFun emf_85 29).symm.trans ((va_up_ne _ _ (by decide)).trans v_29)
  have v_30 : mf_85 30 = .int 0 := (congrFun emf_85 30).symm.trans ((va_up_ne _ _ (by decide)).trans v_30)
  have v_31 : mf_85 31 = .ref q_79 := (congrFun emf_85 31).symm.trans ((va_up_ne _ _ (by decide)).trans v_31)
  have v_32 : mf_85 32 = .ref q_83 := (congrFun emf_85 32).symm.trans (va_up_self _ _ _)
  generalize eh_86 : fU h_84 x (40, 0, .inr (8, mo mf_85)) = h_86 at hI
  have hX := hX.set (e := .inr (8, mo mf_85)) g_x (by decide); rw [eh_86] at hX
  have hF := hF.set (e := .inr (8, mo mf_85)) g_x (by decide); rw [eh_86] at hF
  have g_q_83 : h_86 q_83 = some (73, 0, .inl ((G.2.1 1), 30, .inr (.inl (fun _ => 0)))) := (congrFun eh_86 q_83).symm.trans (fU_keep g_q_83 (f_neR g_q_83 g_x (by decide)))
  have hW9 : fF (inR [40]) h_84 h_86 := by rw [← eh_86]; exact fF.rf.set g_x (by show _ ∈ _; decide)
  have hL := hL.keepS hW9
  have g_x : h_86 x = some (40, 0, .inr (8, mo mf_85)) := (congrFun eh_86 x).symm.trans (fU_self _ _ _)
  have hL := mI.add hL g_q_83 (show (73 : Nat) ≠ 40 by decide)
  clear g_q_83
  refine lv_aload_n hx hb d_MO_init_180 rfl (lv_at hl 0 rfl) ?_
  refine lv_bipush (v := 30) hx hb d_MO_init_181 (by decide) ?_
  have hzN := hI.2.2.2.1
  refine f_newa (atype := .long) (a0 := (30, .inr (.inl (fun _ => 0)))) (cA := (G.2.1 1)) hx hb (hT _ w_143) rfl hI (hK.2 1 _ rfl).2 rfl (by decide) rfl (by decide) 74 0 (Nat.le_of_ble_eq_true rfl) (Nat.le_of_ble_eq_true rfl) d_MO_init_183 (fun q_87 H eq_87 zq_87 nq_87 hI => ?_)
  generalize eh_88 : fU h_86 q_87 (74, 0, .inl ((G.2.1 1), 30, .inr (.inl (fun _ => 0)))) = h_88 at hI
  have hX := hX.new (e := .inl ((G.2.1 1), 30, .inr (.inl (fun _ => 0)))) (r := 74) (o := 0) nq_87 (by omega); rw [eh_88] at hX
  have hF := hF.new (c := (74, 0, .inl ((G.2.1 1), 30, .inr (.inl (fun _ => 0))))) nq_87; rw [eh_88] at hF
  have hW9 : fF (inR []) h_86 h_88 := by rw [← eh_88]; exact fF.rf.new nq_87
  have hL := hL.keep0 hW9
  have g_x : h_88 x = some (40, 0, .inr (8, mo mf_85)) := (congrFun eh_88 x).symm.trans (fU_keep g_x (f_neN g_x nq_87))
  have g_q_87 : h_88 q_87 = some (74, 0, .inl ((G.2.1 1), 30, .inr (.inl (fun _ => 0)))) := (congrFun eh_88 q_87).symm.trans (fU_self _ _ _)
  refine f_putF (C := "DutyRulesModel") (T := T_MO) (N := 40) (fs' := mo (va_up mf_85 33 (.ref q_87))) (v := .ref q_87) hx hb (fun w q => hT w (s_MO w q)) t_MO k_MO n_MO hown hK hI g_x (by decide) rfl 33 (by decide) (hT _ w_842) (fun _ q => q) rfl hnm rfl rfl rfl (by rw [mo_len]; decide) (mo_set _) d_MO_init_185 (fun H locs hI => ?_)
  generalize emf_89 : va_up mf_85 33 (.ref q_87) = mf_89 at hI
  have v_0 : mf_89 0 = .ref q_1 := (congrFun emf_89 0).symm.trans ((va_up_ne _ _ (by decide)).trans v_0)
  have v_1 : mf_89 1 = .int 0 := (congrFun emf_89 1).symm.trans ((va_up_ne _ _ (by decide)).trans v_1)
  have v_2 : mf_89 2 = .ref q_5 := (congrFun emf_89 2).symm.trans ((va_up_ne _ _ (by decide)).trans v_2)
  have v_3 : mf_89 3 = .ref q_9 := (congrFun emf_89 3).symm.trans ((va_up_ne _ _ (by decide)).trans v_3)
  have v_4 : mf_89 4 = .ref q_13 := (congrFun emf_89 4).symm.trans ((va_up_ne _ _ (by decide)).trans v_4)
  have v_5 : mf_89 5 = .ref q_17 := (congrFun emf_89 5).symm.trans ((va_up_ne _ _ (by decide)).trans v_5)
  have v_6 : mf_89 6 = .int 0 := (congrFun emf_89 6).symm.trans ((va_up_ne _ _ (by decide)).trans v_6)
  have v_7 : mf_89 7 = .ref q_21 := (congrFun emf_89 7).symm.trans ((va_up_ne _ _ (by decide)).trans v_7)
  have v_8 : mf_89 8 = .ref q_25 := (congrFun emf_89 8).symm.trans ((va_up_ne _ _ (by decide)).trans v_8)
  have v_9 : mf_89 9 = .ref q_29 := (congrFun emf_89 9).symm.trans ((va_up_ne _ _ (by decide)).trans v_9)
  have v_10 : mf_89 10 = .ref q_33 := (congrFun emf_89 10).symm.trans ((va_up_ne _ _ (by decide)).trans v_10)
  have v_11 : mf_89 11 = .ref q_37 := (congrFun emf_89 11).symm.trans ((va_up_ne _ _ (by decide)).trans v_11)
  have v_12 : mf_89 12 = .int 0 := (congrFun emf_89 12).symm.trans ((va_up_ne _ _ (by decide)).trans v_12)
  have v_13 : mf_89 13 = .long 0 := (congrFun emf_89 13).symm.trans ((va_up_ne _ _ (by decide)).trans v_13)
  have v_14 : mf_89 14 = .int 0 := (congrFun emf_89 14).symm.trans ((va_up_ne _ _ (by decide)).trans v_14)
  have v_15 : mf_89 15 = .ref q_41 := (congrFun emf_89 15).symm.trans ((va_up_ne _ _ (by decide)).trans v_15)
  have v_16 : mf_89 16 = .ref q_45 := (congrFun emf_89 16).symm.trans ((va_up_ne _ _ (by decide)).trans v_16)
  have v_17 : mf_89 17 = .ref q_49 := (congrFun emf_89 17).symm.trans ((va_up_ne _ _ (by decide)).trans v_17)
  have v_18 : mf_89 18 = .int 0 := (congrFun emf_89 18).symm.trans ((va_up_ne _ _ (by decide)).trans v_18)
  have v_19 : mf_89 19 = .long 0 := (congrFun emf_89 19).symm.trans ((va_up_ne _ _ (by decide)).trans v_19)
  have v_20 : mf_89 20 = .long 0 := (congrFun emf_89 20).symm.trans ((va_up_ne _ _ (by decide)).trans v_20)
  have v_21 : mf_89 21 = .int (-1) := (congrFun emf_89 21).symm.trans ((va_up_ne _ _ (by decide)).trans v_21)
  have v_22 : mf_89 22 = .int 0 := (congrFun emf_89 22).symm.trans ((va_up_ne _ _ (by decide)).trans v_22)
  have v_23 : mf_89 23 = .int 0 := (congrFun emf_89 23).symm.trans ((va_up_ne _ _ (by decide)).trans v_23)
  have v_24 : mf_89 24 = .ref q_55 := (congrFun emf_89 24).symm.trans ((va_up_ne _ _ (by decide)).trans v_24)
  have v_25 : mf_89 25 = .ref q_59 := (congrFun emf_89 25).symm.trans ((va_up_ne _ _ (by decide)).trans v_25)
  have v_26 : mf_89 26 = .ref q_63 := (congrFun emf_89 26).symm.trans ((va_up_ne _ _ (by decide)).trans v_26)
  have v_27 : mf_89 27 = .ref q_67 := (congrFun emf_89 27).symm.trans ((va_up_ne _ _ (by decide)).trans v_27)
  have v_28 : mf_89 28 = .ref q_71 := (congrFun emf_89 28).symm.trans ((va_up_ne _ _ (by decide)).trans v_28)
  have v_29 : mf_89 29 = .ref q_75 := (congrFun emf_89 29).symm.trans ((va_up_ne _ _ (by decide)).trans v_29)
  have v_30 : mf_89 30 = .int 0 := (congrFun emf_89 30).symm.trans ((va_up_ne _ _ (by decide)).trans v_30)
  have v_31 : mf_89 31 = .ref q_79 := (congrFun emf_89 31).symm.trans ((va_up_ne _ _ (by decide)).trans v_31)
  have v_32 : mf_89 32 = .ref q_83 := (congrFun emf_89 32).symm.trans ((va_up_ne _ _ (by decide)).trans v_32)
  have v_33 : mf_89 33 = .ref q_87 := (congrFun emf_89 33).symm.trans (va_up_self _ _ _)
  generalize eh_90 : fU h_88 x (40, 0, .inr (8, mo mf_89)) = h_90 at hI
  have hX := hX.set (e := .inr (8, mo mf_89)) g_x (by decide); rw [eh_90] at hX
  have hF := hF.set (e := .inr (8, mo mf_89)) g_x (by decide); rw [eh_90] at hF
  have g_q_87 : h_90 q_87 = some (74, 0, .inl ((G.2.1 1), 30, .inr (.inl (fun _ => 0)))) := (congrFun eh_90 q_87).symm.trans (fU_keep g_q_87 (f_neR g_q_87 g_x (by decide)))
  have hW9 : fF (inR [40]) h_88 h_90 := by rw [← eh_90]; exact fF.rf.set g_x (by show _ ∈ _; decide)
  have hL := hL.keepS hW9
  have g_x : h_90 x = some (40, 0, .inr (8, mo mf_89)) := (congrFun eh_90 x).symm.trans (fU_self _ _ _)
  have hL := mI.add hL g_q_87 (show (74 : Nat) ≠ 40 by decide)
  clear g_q_87
  exact f_vret C hr hI ⟨mf_89, g_x, ⟨q_1, ⟨v_0, v_1⟩, (hL _ (List.mem_of_getElem? (i := 21) rfl)).1, by decide, fun _ => Nat.zero_le _⟩, ⟨q_5, v_2, (hL _ (List.mem_of_getElem? (i := 20) rfl)).1, fun _ => Nat.zero_le _⟩, ⟨q_9, q_13, q_17, ⟨v_3, v_4, v_5, v_6⟩, ⟨(hL _ (List.mem_of_getElem? (i := 19) rfl)).1, (hL _ (List.mem_of_getElem? (i := 18) rfl)).1, (hL _ (List.mem_of_getElem? (i := 17) rfl)).1⟩, by decide, fun _ => Nat.zero_le _, fun _ => Nat.zero_le _, fun _ => Nat.zero_le _, fun _ _ _ hn => absurd hn (Nat.not_lt_zero _)⟩, ⟨q_21, q_25, q_29, q_33, q_37, ⟨v_7, v_8, v_9, v_10, v_11, v_12⟩, ⟨(hL _ (List.mem_of_getElem? (i := 16) rfl)).1, (hL _ (List.mem_of_getElem? (i := 15) rfl)).1, (hL _ (List.mem_of_getElem? (i := 14) rfl)).1, (hL _ (List.mem_of_getElem? (i := 13) rfl)).1, (hL _ (List.mem_of_getElem? (i := 12) rfl)).1⟩, by decide, fun _ => (Nat.zero_lt_succ _), fun _ => (Nat.zero_lt_succ _), fun _ => Nat.zero_le _, fun _ => Nat.zero_le _, fun _ => Nat.zero_le _⟩, v_13, ⟨0, 0, (fun _ => 0), (fun _ => 0), (fun _ => 0), 0, 0, q_41, q_45, q_49, ⟨v_14, v_15, v_16, v_17, v_18, v_19, v_20⟩, ⟨(hL _ (List.mem_of_getElem? (i := 11) rfl)).1, (hL _ (List.mem_of_getElem? (i := 10) rfl)).1, (hL _ (List.mem_of_getElem? (i := 9) rfl)).1⟩⟩, ⟨q_55, q_59, q_63, (fun _ => 0), (fun _ => 0), (fun _ => 0), ⟨v_21, v_22, v_23, v_24, v_25, v_26⟩, ⟨(hL _ (List.mem_of_getElem? (i := 8) rfl)).1, (hL _ (List.mem_of_getElem? (i := 7) rfl)).1, (hL _ (List.mem_of_getElem? (i := 6) rfl)).1⟩, by decide, fun i q hq => by simp at hq⟩, ⟨q_67, q_71, q_75, q_79, q_83, q_87, ⟨v_27, v_28, v_29, v_30, v_31, v_32, v_33⟩, ⟨(hL _ (List.mem_of_getElem? (i := 5) rfl)).1, (hL _ (List.mem_of_getElem? (i := 4) rfl)).1, (hL _ (List.mem_of_getElem? (i := 3) rfl)).1, (hL _ (List.mem_of_getElem? (i := 2) rfl)).1, (hL _ (List.mem_of_getElem? (i := 1) rfl)).1, (hL _ (List.mem_of_getElem? (i := 0) rfl)).1⟩, by decide, fun _ => Nat.zero_le _, fun _ => Nat.zero_le _, fun _ => Nat.zero_le _, fun _ => (Nat.zero_lt_succ _)⟩, hF⟩ hX (Nat.le_of_ble_eq_true rfl) (Nat.le_of_ble_eq_true rfl) d_MO_init_188
