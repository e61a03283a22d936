theorem gm_MO_next : gM y_MO_next b_MO_next 1 none 0 := ⟨w_941, w_10, ⟨by decide, by decide⟩, by decide +kernel⟩
set_option maxHeartbeats 4000000 in
set_option maxRecDepth 100000 in
/-- MO_next  -/
theorem c_MO_next (l : Launch) (G : gG) (h : fH) (sz : Nat) (x e0 : Nat) (wv : Int32) (mf : Nat → Value) (g_x : h x = some (40, 0, .inr (8, mo mf))) (tn : Nat) (tx : Nat → Nat) (hTx : mTx G h mf tn tx) (v_35 : mf 35 = .int (nI e0)) (v_36 : mf 36 = .int wv) (be : e0 ≤ tn) : cM l y_MO_next b_MO_next 1 none { frames := 1, cells := 0, slots := 0, locals := 20 } G [.ref x] h sz (cQv G h sz (fun h' => ∃ mf', h' x = some (40, 0, .inr (8, mo mf')) ∧ (∀ j, j < 34 ∨ 36 < j → mf' j = mf j) ∧ mf' 34 = .int (nI (wb tx tn e0)) ∧ mf' 35 = .int (nI (we tx tn (wb tx tn e0))) ∧ mf' 36 = .int (wv + 1) ∧ fF (inR [40]) h h')) := by
  refine f_start (by decide) (Nat.le_of_ble_eq_true rfl) ?_
  intro p e s m below meth c ls C hr hsz hI hl
  obtain ⟨hx, hb, hml, hown, hnm, hlk, hT, hG, hZ⟩ := id C
  have hK := hG.1
  have hX : fX h sz h := fX.rf
  have hl : lv_has ls 1 [(0, .ref x)] := hl
  obtain ⟨a0, ⟨v_0, v_1⟩, g_a0, btn, btx⟩ := hTx
  have hF : fF (inR [40]) h h := fF.rf
  have hm1 : ∀ j, j < 34 ∨ 36 < j → mf j = mf j := fun _ _ => rfl
  obtain ⟨b, hB⟩ : ∃ b, b = wb tx tn e0 := ⟨_, rfl⟩
  have hb0 := wb_le (tx := tx) be
  have J146 : ∀ e2 : Nat, e2 = we tx tn b → ∀ (h1 : fH) (mf1 : Nat → Value) (H : Heap) (locs : List Loc), h1 x = some (40, 0, .inr (8, mo mf1)) → h1 a0 = some (41, 0, .inl ((G.2.1 0), 2000, .inl (fun i => nI (tx i)))) → mf1 0 = .ref a0 → mf1 1 = .int (nI tn) → mf1 34 = .int (nI b) → mf1 35 = .int (nI e2) → mf1 36 = .int wv → (∀ j, j < 34 ∨ 36 < j → mf1 j = mf j) → fF (inR [40]) h h1 → fX h sz h1 → fI G.1 g_cl (fA h sz) s.heap h1 H locs → ∀ ls : Array Slot, lv_has ls 1 [(0, .ref x)] → W p l e { frames := 1, cells := 0, slots := 0, locals := 20 } s m ([.ref x] : List Value).toArray below meth c H locs 0 0 (MQ below (cQv G h sz (fun h' => ∃ mf', h' x = some (40, 0, .inr (8, mo mf')) ∧ (∀ j, j < 34 ∨ 36 < j → mf' j = mf j) ∧ mf' 34 = .int (nI (wb tx tn e0)) ∧ mf' 35 = .int (nI (we tx tn (wb tx tn e0))) ∧ mf' 36 = .int (wv + 1) ∧ fF (inR [40]) h h')) ([.ref x] : List Value).toArray s 0 0 (fA h sz)) (F0 m 146 ls []) := by
    intro e2 he2 h1 mf1 H locs g_x g_a0 v_0 v_1 v_34 v_35 v_36 hm1 hF hX hI ls hl
    refine lv_aload_n hx hb d_MO_next_146 rfl (lv_at hl 0 rfl) ?_
    refine lv_dup hx hb d_MO_next_147 rfl ?_
    refine f_get (C := "DutyRulesModel") (T := T_MO) (N := 40) hx hb (fun w q => hT w (s_MO w q)) hown hK hI g_x rfl 36 (by decide) (hT _ w_845) (fun _ q => q) (mo_get (by decide) v_36) d_MO_next_148 ?_
    refine lv_iconst (v := 1) hx hb d_MO_next_151 (by decide) ?_
    refine lv_iadd hx hb d_MO_next_152 ?_
    refine f_put (C := "DutyRulesModel") (T := T_MO) (N := 40) (fs' := mo (va_up mf1 36 (.int (wv + 1)))) (v := .int (wv + 1)) hx hb (fun w q => hT w (s_MO w q)) t_MO k_MO n_MO hown hK hI g_x (by decide) rfl 36 (by decide) (hT _ w_845) (fun _ q => q) rfl rfl rfl (by rw [mo_len]; decide) (mo_set _) d_MO_next_153 (fun H locs hI => ?_)
    generalize emf_1 : va_up mf1 36 (.int (wv + 1)) = mf_1 at hI
    have v_0 : mf_1 0 = .ref a0 := (congrFun emf_1 0).symm.trans ((va_up_ne _ _ (by decide)).trans v_0)
    have v_1 : mf_1 1 = .int (nI tn) := (congrFun emf_1 1).symm.trans ((va_up_ne _ _ (by decide)).trans v_1)
    have v_34 : mf_1 34 = .int (nI b) := (congrFun emf_1 34).symm.trans ((va_up_ne _ _ (by decide)).trans v_34)
    have v_35 : mf_1 35 = .int (nI e2) := (congrFun emf_1 35).symm.trans ((va_up_ne _ _ (by decide)).trans v_35)
    have v_36 : mf_1 36 = .int (wv + 1) := (congrFun emf_1 36).symm.trans (va_up_self _ _ _)
    generalize eh_2 : fU h1 x (40, 0, .inr (8, mo mf_1)) = h_2 at hI
    have hX := hX.set (e := .inr (8, mo mf_1)) g_x (by decide); rw [eh_2] at hX
    have hF := hF.set (e := .inr (8, mo mf_1)) g_x (by decide); rw [eh_2] at hF
    have g_a0 : h_2 a0 = some (41, 0, .inl ((G.2.1 0), 2000, .inl (fun i => nI (tx i)))) := (congrFun eh_2 a0).symm.trans (fU_keep g_a0 (f_neR g_a0 g_x (by decide)))
    have g_x : h_2 x = some (40, 0, .inr (8, mo mf_1)) := (congrFun eh_2 x).symm.trans (fU_self _ _ _)
    have hm1 : ∀ j, j < 34 ∨ 36 < j → mf_1 j = mf j := fun j hj => (congrFun emf_1 j).symm.trans ((va_up_ne _ _ (ne_rng hj (by decide))).trans (hm1 j hj))
    exact f_vret C hr hI ⟨mf_1, g_x, hm1, by rw [← hB]; exact v_34, by rw [← hB, ← he2]; exact v_35, v_36, hF⟩ hX (Nat.le_refl _) (Nat.le_refl _) d_MO_next_156
  have J93 : ∀ (k j : Nat), j + k = tn → we tx tn b = fi (qE tx) j k → ∀ (h1 : fH) (mf1 : Nat → Value) (H : Heap) (locs : List Loc), h1 x = some (40, 0, .inr (8, mo mf1)) → h1 a0 = some (41, 0, .inl ((G.2.1 0), 2000, .inl (fun i => nI (tx i)))) → mf1 0 = .ref a0 → mf1 1 = .int (nI tn) → mf1 34 = .int (nI b) → mf1 35 = .int (nI j) → mf1 36 = .int wv → (∀ j, j < 34 ∨ 36 < j → mf1 j = mf j) → fF (inR [40]) h h1 → fX h sz h1 → fI G.1 g_cl (fA h sz) s.heap h1 H locs → ∀ ls : Array Slot, lv_has ls 1 [(0, .ref x)] → W p l e { frames := 1, cells := 0, slots := 0, locals := 20 } s m ([.ref x] : List Value).toArray below meth c H locs 0 0 (MQ below (cQv G h sz (fun h' => ∃ mf', h' x = some (40, 0, .inr (8, mo mf')) ∧ (∀ j, j < 34 ∨ 36 < j → mf' j = mf j) ∧ mf' 34 = .int (nI (wb tx tn e0)) ∧ mf' 35 = .int (nI (we tx tn (wb tx tn e0))) ∧ mf' 36 = .int (wv + 1) ∧ fF (inR [40]) h h')) ([.ref x] : List Value).toArray s 0 0 (fA h sz)) (F0 m 93 ls []) := by
    intro k
    induction k with
    | zero =>
      intro j hj hw h1 mf1 H locs g_x g_a0 v_0 v_1 v_34 v_35 v_36 hm1 hF hX hI ls hl
      refine lv_aload_n hx hb d_MO_next_93 rfl (lv_at hl 0 rfl) ?_
      refine f_get (C := "DutyRulesModel") (T := T_MO) (N := 40) hx hb (fun w q => hT w (s_MO w q)) hown hK hI g_x rfl 35 (by decide) (hT _ w_844) (fun _ q => q) (mo_get (by decide) v_35) d_MO_next_94 ?_
      refine lv_aload_n hx hb d_MO_next_97 rfl (lv_at hl 0 rfl) ?_
      refine f_get (C := "DutyRulesModel") (T := T_MO) (N := 40) hx hb (fun w q => hT w (s_MO w q)) hown hK hI g_x rfl 1 (by decide) (hT _ w_810) (fun _ q => q) (mo_get (by decide) v_1) d_MO_next_98 ?_
      refine lv_icmp_ge (tgt := 146) hx hb d_MO_next_101 (by decide) (fun c_3 => ?_) (fun c_3 => absurd ((n_le (a := tn) (b := j) (by omega) (by omega)).mpr (by omega)) c_3)
      refine J146 j hw.symm _ mf1 _ _ g_x g_a0 v_0 v_1 v_34 v_35 v_36 hm1 hF hX hI ls ?_
      exact lv_sub hl [0] rfl
    | succ k ih =>
      intro j hj hw h1 mf1 H locs g_x g_a0 v_0 v_1 v_34 v_35 v_36 hm1 hF hX hI ls hl
      have ih : ∀ j : Nat, j + k = tn → we tx tn b = fi (qE tx) j k → ∀ (h1 : fH) (mf1 : Nat → Value) (H : Heap) (locs : List Loc), h1 x = some (40, 0, .inr (8, mo mf1)) → h1 a0 = some (41, 0, .inl ((G.2.1 0), 2000, .inl (fun i => nI (tx i)))) → mf1 0 = .ref a0 → mf1 1 = .int (nI tn) → mf1 34 = .int (nI b) → mf1 35 = .int (nI j) → mf1 36 = .int wv → (∀ j, j < 34 ∨ 36 < j → mf1 j = mf j) → fF (inR [40]) h h1 → fX h sz h1 → fI G.1 g_cl (fA h sz) s.heap h1 H locs → ∀ ls : Array Slot, lv_has ls 1 [(0, .ref x)] → W p l e { frames := 1, cells := 0, slots := 0, locals := 20 } s m ([.ref x] : List Value).toArray below meth c H locs 0 0 (MQ below (cQv G h sz (fun h' => ∃ mf', h' x = some (40, 0, .inr (8, mo mf')) ∧ (∀ j, j < 34 ∨ 36 < j → mf' j = mf j) ∧ mf' 34 = .int (nI (wb tx tn e0)) ∧ mf' 35 = .int (nI (we tx tn (wb tx tn e0))) ∧ mf' 36 = .int (wv + 1) ∧ fF (inR [40]) h h')) ([.ref x] : List Value).toArray s 0 0 (fA h sz)) (F0 m 93 ls []) := ih
      refine lv_aload_n hx hb d_MO_next_93 rfl (lv_at hl 0 rfl) ?_
      refine f_get (C := "DutyRulesModel") (T := T_MO) (N := 40) hx hb (fun w q => hT w (s_MO w q)) hown hK hI g_x rfl 35 (by decide) (hT _ w_844) (fun _ q => q) (mo_get (by decide) v_35) d_MO_next_94 ?_
      refine lv_aload_n hx hb d_MO_next_97 rfl (lv_at hl 0 rfl) ?_
      refine f_get (C := "DutyRulesModel") (T := T_MO) (N := 40) hx hb (fun w q => hT w (s_MO w q)) hown hK hI g_x rfl 1 (by decide) (hT _ w_810) (fun _ q => q) (mo_get (by decide) v_1) d_MO_next_98 ?_
      refine lv_icmp_ge (tgt := 146) hx hb d_MO_next_101 (by decide) (fun c_4 => absurd c_4 (fun q => absurd ((n_le (a := tn) (b := j) (by omega) (by omega)).mp q) (by omega))) (fun c_4 => ?_)
      refine lv_aload_n hx hb d_MO_next_104 rfl (lv_at hl 0 rfl) ?_
      refine f_get (C := "DutyRulesModel") (T := T_MO) (N := 40) hx hb (fun w q => hT w (s_MO w q)) hown hK hI g_x rfl 0 (by decide) (hT _ w_809) (fun _ q => q) (mo_get (by decide) v_0) d_MO_next_105 ?_
      refine lv_aload_n hx hb d_MO_next_108 rfl (lv_at hl 0 rfl) ?_
      refine f_get (C := "DutyRulesModel") (T := T_MO) (N := 40) hx hb (fun w q => hT w (s_MO w q)) hown hK hI g_x rfl 35 (by decide) (hT _ w_844) (fun _ q => q) (mo_get (by decide) v_35) d_MO_next_109 ?_
      refine f_ialdn (k := j) (v := (nI (tx j))) hx hb hI g_a0 (fT.ofK hK (t0 := 0) rfl) (by omega) (by omega) rfl d_MO_next_112 ?_
      refine f_calli hI (f_runS C hI (c_MO_isBlank l G h1 _ (nI (tx j))) gm_MO_isBlank w_943 w_942 rfl hl.1 rfl (Nat.le_of_ble_eq_true rfl) ⟨Nat.le_of_ble_eq_true rfl, Nat.le_of_ble_eq_true rfl⟩ d_MO_next_113 ⟨Nat.le_of_ble_eq_true rfl, Nat.le_of_ble_eq_true rfl⟩) (fun r_5 h8 H9 locs hp9 hX9 hz9 hI => ?_)
      obtain ⟨rfl, e9⟩ := hp9
      rw [e9] at hI
      clear hX9 e9
      refine f_asi (isB_n (c := tx j) (by have := btx j; omega)) ?_
      by_cases hB1 : isB (tx j) = true
      · refine f_asi (if_pos hB1) ?_
        refine lv_if_ne (tgt := 146) hx hb d_MO_next_116 (by decide) (fun c_6 => ?_) (fun c_6 => absurd c_6 (by decide))
        refine J146 j (hw.trans (fi_yes (by simp [qE, hB1]))).symm _ mf1 _ _ g_x g_a0 v_0 v_1 v_34 v_35 v_36 hm1 hF hX hI ls ?_
        exact lv_sub hl [0] rfl
      · refine f_asi (if_neg hB1) ?_
        refine lv_if_ne (tgt := 146) hx hb d_MO_next_116 (by decide) (fun c_7 => absurd rfl c_7) (fun c_7 => ?_)
        refine lv_aload_n hx hb d_MO_next_119 rfl (lv_at hl 0 rfl) ?_
        refine f_get (C := "DutyRulesModel") (T := T_MO) (N := 40) hx hb (fun w q => hT w (s_MO w q)) hown hK hI g_x rfl 0 (by decide) (hT _ w_809) (fun _ q => q) (mo_get (by decide) v_0) d_MO_next_120 ?_
        refine lv_aload_n hx hb d_MO_next_123 rfl (lv_at hl 0 rfl) ?_
        refine f_get (C := "DutyRulesModel") (T := T_MO) (N := 40) hx hb (fun w q => hT w (s_MO w q)) hown hK hI g_x rfl 35 (by decide) (hT _ w_844) (fun _ q => q) (mo_get (by decide) v_35) d_MO_next_124 ?_
        refine f_ialdn (k := j) (v := (nI (tx j))) hx hb hI g_a0 (fT.ofK hK (t0 := 0) rfl) (by omega) (by omega) rfl d_MO_next_127 ?_
        refine lv_bipush (v := 59) hx hb d_MO_next_128 (by decide) ?_
        refine lv_icmp_eq (tgt := 146) hx hb d_MO_next_130 (by decide) (fun c_8 => ?_) (fun c_8 => ?_)
        · have c_8 : (tx j) = 59 := (n_eq (a := (tx j)) (b := 59) (by have := btx j; omega) (by omega)).mp c_8
          refine J146 j (hw.trans (fi_yes (by simp [qE, c_8]))).symm _ mf1 _ _ g_x g_a0 v_0 v_1 v_34 v_35 v_36 hm1 hF hX hI ls ?_
          exact lv_sub hl [0] rfl
        · have c_8 : ¬ (tx j) = 59 := fun q => c_8 ((n_eq (a := (tx j)) (b := 59) (by have := btx j; omega) (by omega)).mpr q)
          refine lv_aload_n hx hb d_MO_next_133 rfl (lv_at hl 0 rfl) ?_
          refine lv_dup hx hb d_MO_next_134 rfl ?_
          refine f_get (C := "DutyRulesModel") (T := T_MO) (N := 40) hx hb (fun w q => hT w (s_MO w q)) hown hK hI g_x rfl 35 (by decide) (hT _ w_844) (fun _ q => q) (mo_get (by decide) v_35) d_MO_next_135 ?_
          refine lv_iconst (v := 1) hx hb d_MO_next_138 (by decide) ?_
          refine lv_iadd hx hb d_MO_next_139 ?_
          refine f_asi (nI_add j 1) ?_
          refine f_put (C := "DutyRulesModel") (T := T_MO) (N := 40) (fs' := mo (va_up mf1 35 (.int (nI (j + 1))))) (v := .int (nI (j + 1))) hx hb (fun w q => hT w (s_MO w q)) t_MO k_MO n_MO hown hK hI g_x (by decide) rfl 35 (by decide) (hT _ w_844) (fun _ q => q) rfl rfl rfl (by rw [mo_len]; decide) (mo_set _) d_MO_next_140 (fun H locs hI => ?_)
          generalize emf_9 : va_up mf1 35 (.int (nI (j + 1))) = mf_9 at hI
          have v_0 : mf_9 0 = .ref a0 := (congrFun emf_9 0).symm.trans ((va_up_ne _ _ (by decide)).trans v_0)
          have v_1 : mf_9 1 = .int (nI tn) := (congrFun emf_9 1).symm.trans ((va_up_ne _ _ (by decide)).trans v_1)
          have v_34 : mf_9 34 = .int (nI b) := (congrFun emf_9 34).symm.trans ((va_up_ne _ _ (by decide)).trans v_34)
          have v_36 : mf_9 36 = .int wv := (congrFun emf_9 36).symm.trans ((va_up_ne _ _ (by decide)).trans v_36)
          have v_35 : mf_9 35 = .int (nI (j + 1)) := (congrFun emf_9 35).symm.trans (va_up_self _ _ _)
          generalize eh_10 : fU h1 x (40, 0, .inr (8, mo mf_9)) = h_10 at hI
          have hX := hX.set (e := .inr (8, mo mf_9)) g_x (by decide); rw [eh_10] at hX
          have hF := hF.set (e := .inr (8, mo mf_9)) g_x (by decide); rw [eh_10] at hF
          have g_a0 : h_10 a0 = some (41, 0, .inl ((G.2.1 0), 2000, .inl (fun i => nI (tx i)))) := (congrFun eh_10 a0).symm.trans (fU_keep g_a0 (f_neR g_a0 g_x (by decide)))
          have g_x : h_10 x = some (40, 0, .inr (8, mo mf_9)) := (congrFun eh_10 x).symm.trans (fU_self _ _ _)
          have hm1 : ∀ j, j < 34 ∨ 36 < j → mf_9 j = mf j := fun j hj => (congrFun emf_9 j).symm.trans ((va_up_ne _ _ (ne_rng hj (by decide))).trans (hm1 j hj))
          refine lv_goto (tgt := 93) hx hb d_MO_next_143 (by decide) ?_
          refine ih (j + 1) (by omega) (hw.trans (fi_no (by simp [qE, hB1, c_8]))) _ mf_9 _ _ g_x g_a0 v_0 v_1 v_34 v_35 v_36 hm1 hF hX hI ls ?_
          exact lv_sub hl [0] rfl
  have J47 : ∀ (h1 : fH) (mf1 : Nat → Value) (H : Heap) (locs : List Loc), h1 x = some (40, 0, .inr (8, mo mf1)) → h1 a0 = some (41, 0, .inl ((G.2.1 0), 2000, .inl (fun i => nI (tx i)))) → mf1 0 = .ref a0 → mf1 1 = .int (nI tn) → mf1 34 = .int (nI b) → mf1 35 = .int (nI e0) → mf1 36 = .int wv → (∀ j, j < 34 ∨ 36 < j → mf1 j = mf j) → fF (inR [40]) h h1 → fX h sz h1 → fI G.1 g_cl (fA h sz) s.heap h1 H locs → ∀ ls : Array Slot, lv_has ls 1 [(0, .ref x)] → W p l e { frames := 1, cells := 0, slots := 0, locals := 20 } s m ([.ref x] : List Value).toArray below meth c H locs 0 0 (MQ below (cQv G h sz (fun h' => ∃ mf', h' x = some (40, 0, .inr (8, mo mf')) ∧ (∀ j, j < 34 ∨ 36 < j → mf' j = mf j) ∧ mf' 34 = .int (nI (wb tx tn e0)) ∧ mf' 35 = .int (nI (we tx tn (wb tx tn e0))) ∧ mf' 36 = .int (wv + 1) ∧ fF (inR [40]) h h')) ([.ref x] : List Value).toArray s 0 0 (fA h sz)) (F0 m 47 ls []) := by
    intro h1 mf1 H locs g_x g_a0 v_0 v_1 v_34 v_35 v_36 hm1 hF hX hI ls hl
    refine lv_aload_n hx hb d_MO_next_47 rfl (lv_at hl 0 rfl) ?_
    refine lv_aload_n hx hb d_MO_next_48 rfl (lv_at hl 0 rfl) ?_
    refine f_get (C := "DutyRulesModel") (T := T_MO) (N := 40) hx hb (fun w q => hT w (s_MO w q)) hown hK hI g_x rfl 34 (by decide) (hT _ w_843) (fun _ q => q) (mo_get (by decide) v_34) d_MO_next_49 ?_
    refine f_put (C := "DutyRulesModel") (T := T_MO) (N := 40) (fs' := mo (va_up mf1 35 (.int (nI b)))) (v := .int (nI b)) hx hb (fun w q => hT w (s_MO w q)) t_MO k_MO n_MO hown hK hI g_x (by decide) rfl 35 (by decide) (hT _ w_844) (fun _ q => q) rfl rfl rfl (by rw [mo_len]; decide) (mo_set _) d_MO_next_52 (fun H locs hI => ?_)
    generalize emf_11 : va_up mf1 35 (.int (nI b)) = mf_11 at hI
    have v_0 : mf_11 0 = .ref a0 := (congrFun emf_11 0).symm.trans ((va_up_ne _ _ (by decide)).trans v_0)
    have v_1 : mf_11 1 = .int (nI tn) := (congrFun emf_11 1).symm.trans ((va_up_ne _ _ (by decide)).trans v_1)
    have v_34 : mf_11 34 = .int (nI b) := (congrFun emf_11 34).symm.trans ((va_up_ne _ _ (by decide)).trans v_34)
    have v_36 : mf_11 36 = .int wv := (congrFun emf_11 36).symm.trans ((va_up_ne _ _ (by decide)).trans v_36)
    have v_35 : mf_11 35 = .int (nI b) := (congrFun emf_11 35).symm.trans (va_up_self _ _ _)
    generalize eh_12 : fU h1 x (40, 0, .inr (8, mo mf_11)) = h_12 at hI
    have hX := hX.set (e := .inr (8, mo mf_11)) g_x (by decide); rw [eh_12] at hX
    have hF := hF.set (e := .inr (8, mo mf_11)) g_x (by decide); rw [eh_12] at hF
    have g_a0 : h_12 a0 = some (41, 0, .inl ((G.2.1 0), 2000, .inl (fun i => nI (tx i)))) := (congrFun eh_12 a0).symm.trans (fU_keep g_a0 (f_neR g_a0 g_x (by decide)))
    have g_x : h_12 x = some (40, 0, .inr (8, mo mf_11)) := (congrFun eh_12 x).symm.trans (fU_self _ _ _)
    have hm1 : ∀ j, j < 34 ∨ 36 < j → mf_11 j = mf j := fun j hj => (congrFun emf_11 j).symm.trans ((va_up_ne _ _ (ne_rng hj (by decide))).trans (hm1 j hj))
    refine lv_aload_n hx hb d_MO_next_55 rfl (lv_at hl 0 rfl) ?_
    refine f_get (C := "DutyRulesModel") (T := T_MO) (N := 40) hx hb (fun w q => hT w (s_MO w q)) hown hK hI g_x rfl 35 (by decide) (hT _ w_844) (fun _ q => q) (mo_get (by decide) v_35) d_MO_next_56 ?_
    refine lv_aload_n hx hb d_MO_next_59 rfl (lv_at hl 0 rfl) ?_
    refine f_get (C := "DutyRulesModel") (T := T_MO) (N := 40) hx hb (fun w q => hT w (s_MO w q)) hown hK hI g_x rfl 1 (by decide) (hT _ w_810) (fun _ q => q) (mo_get (by decide) v_1) d_MO_next_60 ?_
    refine lv_icmp_ge (tgt := 93) hx hb d_MO_next_63 (by decide) (fun c_13 => ?_) (fun c_13 => ?_)
    · have c_13 : tn ≤ b := (n_le (a := tn) (b := b) (by omega) (by omega)).mp c_13
      refine J93 (tn - b) b (by omega) (if_neg (fun q => by have := q.1; have := q.2; omega)) _ mf_11 _ _ g_x g_a0 v_0 v_1 v_34 v_35 v_36 hm1 hF hX hI ls ?_
      exact lv_sub hl [0] rfl
    · have c_13 : ¬ tn ≤ b := fun q => c_13 ((n_le (a := tn) (b := b) (by omega) (by omega)).mpr q)
      refine lv_aload_n hx hb d_MO_next_66 rfl (lv_at hl 0 rfl) ?_
      refine f_get (C := "DutyRulesModel") (T := T_MO) (N := 40) hx hb (fun w q => hT w (s_MO w q)) hown hK hI g_x rfl 0 (by decide) (hT _ w_809) (fun _ q => q) (mo_get (by decide) v_0) d_MO_next_67 ?_
      refine lv_aload_n hx hb d_MO_next_70 rfl (lv_at hl 0 rfl) ?_
      refine f_get (C := "DutyRulesModel") (T := T_MO) (N := 40) hx hb (fun w q => hT w (s_MO w q)) hown hK hI g_x rfl 35 (by decide) (hT _ w_844) (fun _ q => q) (mo_get (by decide) v_35) d_MO_next_71 ?_
      refine f_ialdn (k := b) (v := (nI (tx b))) hx hb hI g_a0 (fT.ofK hK (t0 := 0) rfl) (by omega) (by omega) rfl d_MO_next_74 ?_
      refine lv_bipush (v := 59) hx hb d_MO_next_75 (by decide) ?_
      refine lv_icmp_ne (tgt := 93) hx hb d_MO_next_77 (by decide) (fun c_14 => ?_) (fun c_14 => ?_)
      · have c_14 : ¬ (tx b) = 59 := fun q => c_14 ((n_eq (a := (tx b)) (b := 59) (by have := btx b; omega) (by omega)).mpr q)
        refine J93 (tn - b) b (by omega) (if_neg (fun q => by have := q.1; have := q.2; omega)) _ mf_11 _ _ g_x g_a0 v_0 v_1 v_34 v_35 v_36 hm1 hF hX hI ls ?_
        exact lv_sub hl [0] rfl
      · have c_14 : (tx b) = 59 := (n_eq (a := (tx b)) (b := 59) (by have := btx b; omega) (by omega)).mp c_14
        refine lv_aload_n hx hb d_MO_next_80 rfl (lv_at hl 0 rfl) ?_
        refine lv_dup hx hb d_MO_next_81 rfl ?_
        refine f_get (C := "DutyRulesModel") (T := T_MO) (N := 40) hx hb (fun w q => hT w (s_MO w q)) hown hK hI g_x rfl 35 (by decide) (hT _ w_844) (fun _ q => q) (mo_get (by decide) v_35) d_MO_next_82 ?_
        refine lv_iconst (v := 1) hx hb d_MO_next_85 (by decide) ?_
        refine lv_iadd hx hb d_MO_next_86 ?_
        refine f_asi (nI_add b 1) ?_
        refine f_put (C := "DutyRulesModel") (T := T_MO) (N := 40) (fs' := mo (va_up mf_11 35 (.int (nI (b + 1))))) (v := .int (nI (b + 1))) hx hb (fun w q => hT w (s_MO w q)) t_MO k_MO n_MO hown hK hI g_x (by decide) rfl 35 (by decide) (hT _ w_844) (fun _ q => q) rfl rfl rfl (by rw [mo_len]; decide) (mo_set _) d_MO_next_87 (fun H locs hI => ?_)
        generalize emf_15 : va_up mf_11 35 (.int (nI (b + 1))) = mf_15 at hI
        have v_0 : mf_15 0 = .ref a0 := (congrFun emf_15 0).symm.trans ((va_up_ne _ _ (by decide)).trans v_0)
        have v_1 : mf_15 1 = .int (nI tn) := (congrFun emf_15 1).symm.trans ((va_up_ne _ _ (by decide)).trans v_1)
        have v_34 : mf_15 34 = .int (nI b) := (congrFun emf_15 34).symm.trans ((va_up_ne _ _ (by decide)).trans v_34)
        have v_36 : mf_15 36 = .int wv := (congrFun emf_15 36).symm.trans ((va_up_ne _ _ (by decide)).trans v_36)
        have v_35 : mf_15 35 = .int (nI (b + 1)) := (congrFun emf_15 35).symm.trans (va_up_self _ _ _)
        generalize eh_16 : fU h_12 x (40, 0, .inr (8, mo mf_15)) = h_16 at hI
        have hX := hX.set (e := .inr (8, mo mf_15)) g_x (by decide); rw [eh_16] at hX
        have hF := hF.set (e := .inr (8, mo mf_15)) g_x (by decide); rw [eh_16] at hF
        have g_a0 : h_16 a0 = some (41, 0, .inl ((G.2.1 0), 2000, .inl (fun i => nI (tx i)))) := (congrFun eh_16 a0).symm.trans (fU_keep g_a0 (f_neR g_a0 g_x (by decide)))
        have g_x : h_16 x = some (40, 0, .inr (8, mo mf_15)) := (congrFun eh_16 x).symm.trans (fU_self _ _ _)
        have hm1 : ∀ j, j < 34 ∨ 36 < j → mf_15 j = mf j := fun j hj => (congrFun emf_15 j).symm.trans ((va_up_ne _ _ (ne_rng hj (by decide))).trans (hm1 j hj))
        refine lv_goto (tgt := 146) hx hb d_MO_next_90 (by decide) ?_
        refine J146 (b + 1) (if_pos (show b < tn ∧ tx b = 59 by omega)).symm _ mf_15 _ _ g_x g_a0 v_0 v_1 v_34 v_35 v_36 hm1 hF hX hI ls ?_
        exact lv_sub hl [0] rfl
  have J8 : ∀ (k i : Nat), i + k = tn → wb tx tn e0 = fi (qB tx) i k → ∀ (h1 : fH) (mf1 : Nat → Value) (H : Heap) (locs : List Loc), h1 x = some (40, 0, .inr (8, mo mf1)) → h1 a0 = some (41, 0, .inl ((G.2.1 0), 2000, .inl (fun i => nI (tx i)))) → mf1 0 = .ref a0 → mf1 1 = .int (nI tn) → mf1 34 = .int (nI i) → mf1 35 = .int (nI e0) → mf1 36 = .int wv → (∀ j, j < 34 ∨ 36 < j → mf1 j = mf j) → fF (inR [40]) h h1 → fX h sz h1 → fI G.1 g_cl (fA h sz) s.heap h1 H locs → ∀ ls : Array Slot, lv_has ls 1 [(0, .ref x)] → W p l e { frames := 1, cells := 0, slots := 0, locals := 20 } s m ([.ref x] : List Value).toArray below meth c H locs 0 0 (MQ below (cQv G h sz (fun h' => ∃ mf', h' x = some (40, 0, .inr (8, mo mf')) ∧ (∀ j, j < 34 ∨ 36 < j → mf' j = mf j) ∧ mf' 34 = .int (nI (wb tx tn e0)) ∧ mf' 35 = .int (nI (we tx tn (wb tx tn e0))) ∧ mf' 36 = .int (wv + 1) ∧ fF (inR [40]) h h')) ([.ref x] : List Value).toArray s 0 0 (fA h sz)) (F0 m 8 ls []) := by
    intro k
    induction k with
    | zero =>
      intro i hi hw h1 mf1 H locs g_x g_a0 v_0 v_1 v_34 v_35 v_36 hm1 hF hX hI ls hl
      refine lv_aload_n hx hb d_MO_next_8 rfl (lv_at hl 0 rfl) ?_
      refine f_get (C := "DutyRulesModel") (T := T_MO) (N := 40) hx hb (fun w q => hT w (s_MO w q)) hown hK hI g_x rfl 34 (by decide) (hT _ w_843) (fun _ q => q) (mo_get (by decide) v_34) d_MO_next_9 ?_
      refine lv_aload_n hx hb d_MO_next_12 rfl (lv_at hl 0 rfl) ?_
      refine f_get (C := "DutyRulesModel") (T := T_MO) (N := 40) hx hb (fun w q => hT w (s_MO w q)) hown hK hI g_x rfl 1 (by decide) (hT _ w_810) (fun _ q => q) (mo_get (by decide) v_1) d_MO_next_13 ?_
      refine lv_icmp_ge (tgt := 47) hx hb d_MO_next_16 (by decide) (fun c_17 => ?_) (fun c_17 => absurd ((n_le (a := tn) (b := i) (by omega) (by omega)).mpr (by omega)) c_17)
      have hbi : b = i := hB.trans hw
      refine J47 _ mf1 _ _ g_x g_a0 v_0 v_1 (by rw [hbi]; exact v_34) v_35 v_36 hm1 hF hX hI ls ?_
      exact lv_sub hl [0] rfl
    | succ k ih =>
      intro i hi hw h1 mf1 H locs g_x g_a0 v_0 v_1 v_34 v_35 v_36 hm1 hF hX hI ls hl
      have ih : ∀ i : Nat, i + k = tn → wb tx tn e0 = fi (qB tx) i k → ∀ (h1 : fH) (mf1 : Nat → Value) (H : Heap) (locs : List Loc), h1 x = some (40, 0, .inr (8, mo mf1)) → h1 a0 = some (41, 0, .inl ((G.2.1 0), 2000, .inl (fun i => nI (tx i)))) → mf1 0 = .ref a0 → mf1 1 = .int (nI tn) → mf1 34 = .int (nI i) → mf1 35 = .int (nI e0) → mf1 36 = .int wv → (∀ j, j < 34 ∨ 36 < j → mf1 j = mf j) → fF (inR [40]) h h1 → fX h sz h1 → fI G.1 g_cl (fA h sz) s.heap h1 H locs → ∀ ls : Array Slot, lv_has ls 1 [(0, .ref x)] → W p l e { frames := 1, cells := 0, slots := 0, locals := 20 } s m ([.ref x] : List Value).toArray below meth c H locs 0 0 (MQ below (cQv G h sz (fun h' => ∃ mf', h' x = some (40, 0, .inr (8, mo mf')) ∧ (∀ j, j < 34 ∨ 36 < j → mf' j = mf j) ∧ mf' 34 = .int (nI (wb tx tn e0)) ∧ mf' 35 = .int (nI (we tx tn (wb tx tn e0))) ∧ mf' 36 = .int (wv + 1) ∧ fF (inR [40]) h h')) ([.ref x] : List Value).toArray s 0 0 (fA h sz)) (F0 m 8 ls []) := ih
      refine lv_aload_n hx hb d_MO_next_8 rfl (lv_at hl 0 rfl) ?_
      refine f_get (C := "DutyRulesModel") (T := T_MO) (N := 40) hx hb (fun w q => hT w (s_MO w q)) hown hK hI g_x rfl 34 (by decide) (hT _ w_843) (fun _ q => q) (mo_get (by decide) v_34) d_MO_next_9 ?_
      refine lv_aload_n hx hb d_MO_next_12 rfl (lv_at hl 0 rfl) ?_
      refine f_get (C := "DutyRulesModel") (T := T_MO) (N := 40) hx hb (fun w q => hT w (s_MO w q)) hown hK hI g_x rfl 1 (by decide) (hT _ w_810) (fun _ q => q) (mo_get (by decide) v_1) d_MO_next_13 ?_
      refine lv_icmp_ge (tgt := 47) hx hb d_MO_next_16 (by decide) (fun c_18 => absurd c_18 (fun q => absurd ((n_le (a := tn) (b := i) (by omega) (by omega)).mp q) (by omega))) (fun c_18 => ?_)
      refine lv_aload_n hx hb d_MO_next_19 rfl (lv_at hl 0 rfl) ?_
      refine f_get (C := "DutyRulesModel") (T := T_MO) (N := 40) hx hb (fun w q => hT w (s_MO w q)) hown hK hI g_x rfl 0 (by decide) (hT _ w_809) (fun _ q => q) (mo_get (by decide) v_0) d_MO_next_20 ?_
      refine lv_aload_n hx hb d_MO_next_23 rfl (lv_at hl 0 rfl) ?_
      refine f_get (C := "DutyRulesModel") (T := T_MO) (N := 40) hx hb (fun w q => hT w (s_MO w q)) hown hK hI g_x rfl 34 (by decide) (hT _ w_843) (fun _ q => q) (mo_get (by decide) v_34) d_MO_next_24 ?_
      refine f_ialdn (k := i) (v := (nI (tx i))) hx hb hI g_a0 (fT.ofK hK (t0 := 0) rfl) (by omega) (by omega) rfl d_MO_next_27 ?_
      refine f_calli hI (f_runS C hI (c_MO_isBlank l G h1 _ (nI (tx i))) gm_MO_isBlank w_943 w_942 rfl hl.1 rfl (Nat.le_of_ble_eq_true rfl) ⟨Nat.le_of_ble_eq_true rfl, Nat.le_of_ble_eq_true rfl⟩ d_MO_next_28 ⟨Nat.le_of_ble_eq_true rfl, Nat.le_of_ble_eq_true rfl⟩) (fun r_19 h8 H9 locs hp9 hX9 hz9 hI => ?_)
      obtain ⟨rfl, e9⟩ := hp9
      rw [e9] at hI
      clear hX9 e9
      refine f_asi (isB_n (c := tx i) (by have := btx i; omega)) ?_
      by_cases hB1 : isB (tx i) = true
      · refine f_asi (if_pos hB1) ?_
        refine lv_if_eq (tgt := 47) hx hb d_MO_next_31 (by decide) (fun c_20 => absurd c_20 (by decide)) (fun c_20 => ?_)
        refine lv_aload_n hx hb d_MO_next_34 rfl (lv_at hl 0 rfl) ?_
        refine lv_dup hx hb d_MO_next_35 rfl ?_
        refine f_get (C := "DutyRulesModel") (T := T_MO) (N := 40) hx hb (fun w q => hT w (s_MO w q)) hown hK hI g_x rfl 34 (by decide) (hT _ w_843) (fun _ q => q) (mo_get (by decide) v_34) d_MO_next_36 ?_
        refine lv_iconst (v := 1) hx hb d_MO_next_39 (by decide) ?_
        refine lv_iadd hx hb d_MO_next_40 ?_
        refine f_asi (nI_add i 1) ?_
        refine f_put (C := "DutyRulesModel") (T := T_MO) (N := 40) (fs' := mo (va_up mf1 34 (.int (nI (i + 1))))) (v := .int (nI (i + 1))) hx hb (fun w q => hT w (s_MO w q)) t_MO k_MO n_MO hown hK hI g_x (by decide) rfl 34 (by decide) (hT _ w_843) (fun _ q => q) rfl rfl rfl (by rw [mo_len]; decide) (mo_set _) d_MO_next_41 (fun H locs hI => ?_)
        generalize emf_21 : va_up mf1 34 (.int (nI (i + 1))) = mf_21 at hI
        have v_0 : mf_21 0 = .ref a0 := (congrFun emf_21 0).symm.trans ((va_up_ne _ _ (by decide)).trans v_0)
        have v_1 : mf_21 1 = .int (nI tn) := (congrFun emf_21 1).symm.trans ((va_up_ne _ _ (by decide)).trans v_1)
        have v_35 : mf_21 35 = .int (nI e0) := (congrFun emf_21 35).symm.trans ((va_up_ne _ _ (by decide)).trans v_35)
        have v_36 : mf_21 36 = .int wv := (congrFun emf_21 36).symm.trans ((va_up_ne _ _ (by decide)).trans v_36)
        have v_34 : mf_21 34 = .int (nI (i + 1)) := (congrFun emf_21 34).symm.trans (va_up_self _ _ _)
        generalize eh_22 : fU h1 x (40, 0, .inr (8, mo mf_21)) = h_22 at hI
        have hX := hX.set (e := .inr (8, mo mf_21)) g_x (by decide); rw [eh_22] at hX
        have hF := hF.set (e := .inr (8, mo mf_21)) g_x (by decide); rw [eh_22] at hF
        have g_a0 : h_22 a0 = some (41, 0, .inl ((G.2.1 0), 2000, .inl (fun i => nI (tx i)))) := (congrFun eh_22 a0).symm.trans (fU_keep g_a0 (f_neR g_a0 g_x (by decide)))
        have g_x : h_22 x = some (40, 0, .inr (8, mo mf_21)) := (congrFun eh_22 x).symm.trans (fU_self _ _ _)
        have hm1 : ∀ j, j < 34 ∨ 36 < j → mf_21 j = mf j := fun j hj => (congrFun emf_21 j).symm.trans ((va_up_ne _ _ (ne_rng hj (by decide))).trans (hm1 j hj))
        refine lv_goto (tgt := 8) hx hb d_MO_next_44 (by decide) ?_
        refine ih (i + 1) (by omega) (hw.trans (fi_no (by simp [qB, hB1]))) _ mf_21 _ _ g_x g_a0 v_0 v_1 v_34 v_35 v_36 hm1 hF hX hI ls ?_
        exact lv_sub hl [0] rfl
      · refine f_asi (if_neg hB1) ?_
        refine lv_if_eq (tgt := 47) hx hb d_MO_next_31 (by decide) (fun c_23 => ?_) (fun c_23 => absurd rfl c_23)
        have hbi : b = i := hB.trans (hw.trans (fi_yes (by simp [qB, hB1])))
        refine J47 _ mf1 _ _ g_x g_a0 v_0 v_1 (by rw [hbi]; exact v_34) v_35 v_36 hm1 hF hX hI ls ?_
        exact lv_sub hl [0] rfl
  refine lv_aload_n hx hb d_MO_next_0 rfl (lv_at hl 0 rfl) ?_
  refine lv_aload_n hx hb d_MO_next_1 rfl (lv_at hl 0 rfl) ?_
  refine f_get (C := "DutyRulesModel") (T := T_MO) (N := 40) hx hb (fun w q => hT w (s_MO w q)) hown hK hI g_x rfl 35 (by decide) (hT _ w_844) (fun _ q => q) (mo_get (by decide) v_35) d_MO_next_2 ?_
  refine f_put (C := "DutyRulesModel") (T := T_MO) (N := 40) (fs' := mo (va_up mf 34 (.int (nI e0)))) (v := .int (nI e0)) hx hb (fun w q => hT w (s_MO w q)) t_MO k_MO n_MO hown hK hI g_x (by decide) rfl 34 (by decide) (hT _ w_843) (fun _ q => q) rfl rfl rfl (by rw [mo_len]; decide) (mo_set _) d_MO_next_5 (fun H locs hI => ?_)
  generalize emf_24 : va_up mf 34 (.int (nI e0)) = mf_24 at hI
  have v_0 : mf_24 0 = .ref a0 := (congrFun emf_24 0).symm.trans ((va_up_ne _ _ (by decide)).trans v_0)
  have v_1 : mf_24 1 = .int (nI tn) := (congrFun emf_24 1).symm.trans ((va_up_ne _ _ (by decide)).trans v_1)
  have v_35 : mf_24 35 = .int (nI e0) := (congrFun emf_24 35).symm.trans ((va_up_ne _ _ (by decide)).trans v_35)
  have v_36 : mf_24 36 = .int wv := (congrFun emf_24 36).symm.trans ((va_up_ne _ _ (by decide)).trans v_36)
  have v_34 : mf_24 34 = .int (nI e0) := (congrFun emf_24 34).symm.trans (va_up_self _ _ _)
  generalize eh_25 : fU h x (40, 0, .inr (8, mo mf_24)) = h_25 at hI
  have hX := hX.set (e := .inr (8, mo mf_24)) g_x (by decide); rw [eh_25] at hX
  have hF := hF.set (e := .inr (8, mo mf_24)) g_x (by decide); rw [eh_25] at hF
  have g_a0 : h_25 a0 = some (41, 0, .inl ((G.2.1 0), 2000, .inl (fun i => nI (tx i)))) := (congrFun eh_25 a0).symm.trans (fU_keep g_a0 (f_neR g_a0 g_x (by decide)))
  have g_x : h_25 x = some (40, 0, .inr (8, mo mf_24)) := (congrFun eh_25 x).symm.trans (fU_self _ _ _)
  have hm1 : ∀ j, j < 34 ∨ 36 < j → mf_24 j = mf j := fun j hj => (congrFun emf_24 j).symm.trans ((va_up_ne _ _ (ne_rng hj (by decide))).trans (hm1 j hj))
  refine J8 (tn - e0) e0 (by omega) rfl _ mf_24 _ _ g_x g_a0 v_0 v_1 v_34 v_35 v_36 hm1 hF hX hI ls ?_
  exact lv_sub hl [0] rfl
theorem gm_MO_wordByte : gM y_MO_wordByte b_MO_wordByte 5 (some .int) 2 := ⟨w_958, w_10, ⟨by decide, by decide⟩, by decide +kernel⟩
set_option maxHeartbeats 4000000 in
set_option maxRecDepth 100000 in
/-- MO_wordByte  -/
theorem c_MO_wordByte (l : Launch) (G : gG) (h : fH) (sz : Nat) (wd kk : Nat) (hS : sT G h 0 0 7 (G.2.2.2 7) aL 63) (hw : wd < 13) (hk : kk ≤ wL wd) : cM l y_MO_wordByte b_MO_wordByte 5 (some .int) { frames := 4, cells := 0, slots := 0, locals := 85 } G [.int (nI wd), .int (nI kk)] h sz (cQi G h sz (fun r h' => r = (if kk = wL wd then -1 else nI (aL (wS wd + kk))) ∧ h' = h)) := by
  refine f_start (by decide) (Nat.le_of_ble_eq_true rfl) ?_
  intro p e s m below meth c ls C hr hsz hI hl
  obtain ⟨hx, hb, hml, hown, hnm, hlk, hT, hG, hZ⟩ := id C
  have hK := hG.1
  have hX : fX h sz h := fX.rf
  have hl : lv_has ls 5 [(0, .int (nI wd)), (1, .int (nI kk))] := hl
  obtain ⟨_, _, _, _, g_w, _⟩ := id hS
  have hq0 := aL_sp wd hw
  have J42 : ∀ (k i : Nat), i + k = kk → ∀ (H : Heap) (locs : List Loc), fI G.1 g_cl (fA h sz) s.heap h H locs → ∀ ls : Array Slot, lv_has ls 5 [(0, .int (nI wd)), (1, .int (nI kk)), (2, .ref (G.2.2.2 7)), (3, .int (nI (wS wd))), (4, .int (nI i))] → W p l e { frames := 4, cells := 0, slots := 0, locals := 85 } s m ([.int (nI wd), .int (nI kk)] : List Value).toArray below meth c H locs 0 0 (MQ below (cQi G h sz (fun r h' => r = (if kk = wL wd then -1 else nI (aL (wS wd + kk))) ∧ h' = h)) ([.int (nI wd), .int (nI kk)] : List Value).toArray s 0 0 (fA h sz)) (F0 m 42 ls []) := by
    intro k
    induction k with
    | zero =>
      intro i hi H locs hI ls hl
      by_cases hz : kk = wL wd
      · have h32 : aL (wS wd + kk) = 32 := by rw [hz]; exact hq0.1
        refine lv_iload hx hb d_MO_wordByte_42 (lv_at hl 4 rfl) ?_
        refine lv_iload_n hx hb d_MO_wordByte_44 rfl (lv_at hl 1 rfl) ?_
        refine lv_icmp_ge (tgt := 69) hx hb d_MO_wordByte_45 (by decide) (fun c_1 => ?_) (fun c_1 => absurd ((n_le (a := kk) (b := i) (by omega) (by omega)).mpr (by omega)) c_1)
        refine lv_aload_n hx hb d_MO_wordByte_69 rfl (lv_at hl 2 rfl) ?_
        refine lv_iload_n hx hb d_MO_wordByte_70 rfl (lv_at hl 3 rfl) ?_
        refine lv_iload_n hx hb d_MO_wordByte_71 rfl (lv_at hl 1 rfl) ?_
        refine lv_iadd hx hb d_MO_wordByte_72 ?_
        refine f_asi (nI_add (wS wd) kk) ?_
        refine f_calli hI (f_runV C hI (c_ST_at l G h _ 0 0 7 (G.2.2.2 7) (wS wd + kk) 63 aL hS (by omega)) gm_ST_charAt w_377 w_378 w_960 g_w rfl rfl rfl hl.1 rfl (Nat.le_of_ble_eq_true rfl) ⟨Nat.le_of_ble_eq_true rfl, Nat.le_of_ble_eq_true rfl⟩ d_MO_wordByte_73 ⟨Nat.le_of_ble_eq_true rfl, Nat.le_of_ble_eq_true rfl⟩) (fun r_2 h8 H9 locs hp9 hX9 hz9 hI => ?_)
        obtain ⟨rfl, e9⟩ := hp9
        rw [e9] at hI
        clear hX9 e9
        refine lv_bipush (v := 32) hx hb d_MO_wordByte_76 (by decide) ?_
        refine lv_icmp_ne (tgt := 85) hx hb d_MO_wordByte_78 (by decide) (fun c_3 => absurd (by rw [h32]; rfl) c_3) (fun c_3 => ?_)
        refine lv_iconst (v := (-1)) hx hb d_MO_wordByte_81 (by decide) ?_
        refine lv_goto (tgt := 92) hx hb d_MO_wordByte_82 (by decide) ?_
        exact f_iret C hr hI ⟨(if_pos hz).symm, rfl⟩ hX (Nat.le_refl _) (Nat.le_refl _) d_MO_wordByte_92
      · have h32 : aL (wS wd + kk) ≠ 32 := aL_in wd hw kk (by omega)
        refine lv_iload hx hb d_MO_wordByte_42 (lv_at hl 4 rfl) ?_
        refine lv_iload_n hx hb d_MO_wordByte_44 rfl (lv_at hl 1 rfl) ?_
        refine lv_icmp_ge (tgt := 69) hx hb d_MO_wordByte_45 (by decide) (fun c_4 => ?_) (fun c_4 => absurd ((n_le (a := kk) (b := i) (by omega) (by omega)).mpr (by omega)) c_4)
        refine lv_aload_n hx hb d_MO_wordByte_69 rfl (lv_at hl 2 rfl) ?_
        refine lv_iload_n hx hb d_MO_wordByte_70 rfl (lv_at hl 3 rfl) ?_
        refine lv_iload_n hx hb d_MO_wordByte_71 rfl (lv_at hl 1 rfl) ?_
        refine lv_iadd hx hb d_MO_wordByte_72 ?_
        refine f_asi (nI_add (wS wd) kk) ?_
        refine f_calli hI (f_runV C hI (c_ST_at l G h _ 0 0 7 (G.2.2.2 7) (wS wd + kk) 63 aL hS (by omega)) gm_ST_charAt w_377 w_378 w_960 g_w rfl rfl rfl hl.1 rfl (Nat.le_of_ble_eq_true rfl) ⟨Nat.le_of_ble_eq_true rfl, Nat.le_of_ble_eq_true rfl⟩ d_MO_wordByte_73 ⟨Nat.le_of_ble_eq_true rfl, Nat.le_of_ble_eq_true rfl⟩) (fun r_5 h8 H9 locs hp9 hX9 hz9 hI => ?_)
        obtain ⟨rfl, e9⟩ := hp9
        rw [e9] at hI
        clear hX9 e9
        refine lv_bipush (v := 32) hx hb d_MO_wordByte_76 (by decide) ?_
        refine lv_icmp_ne (tgt := 85) hx hb d_MO_wordByte_78 (by decide) (fun c_6 => ?_) (fun c_6 => absurd c_6 (fun q => h32 ((n_eq (b := 32) (by have := aL_lt (wS wd + kk); omega) (by decide)).mp q)))
        refine lv_aload_n hx hb d_MO_wordByte_85 rfl (lv_at hl 2 rfl) ?_
        refine lv_iload_n hx hb d_MO_wordByte_86 rfl (lv_at hl 3 rfl) ?_
        refine lv_iload_n hx hb d_MO_wordByte_87 rfl (lv_at hl 1 rfl) ?_
        refine lv_iadd hx hb d_MO_wordByte_88 ?_
        refine f_asi (nI_add (wS wd) kk) ?_
        refine f_calli hI (f_runV C hI (c_ST_at l G h _ 0 0 7 (G.2.2.2 7) (wS wd + kk) 63 aL hS (by omega)) gm_ST_charAt w_377 w_378 w_960 g_w rfl rfl rfl hl.1 rfl (Nat.le_of_ble_eq_true rfl) ⟨Nat.le_of_ble_eq_true rfl, Nat.le_of_ble_eq_true rfl⟩ d_MO_wordByte_89 ⟨Nat.le_of_ble_eq_true rfl, Nat.le_of_ble_eq_true rfl⟩) (fun r_7 h8 H9 locs hp9 hX9 hz9 hI => ?_)
        obtain ⟨rfl, e9⟩ := hp9
        rw [e9] at hI
        clear hX9 e9
        exact f_iret C hr hI ⟨(if_neg hz).symm, rfl⟩ hX (Nat.le_refl _) (Nat.le_refl _) d_MO_wordByte_92
    | succ k ih =>
      intro i hi H locs hI ls hl
      have ih : ∀ i : Nat, i + k = kk → ∀ (H : Heap) (locs : List Loc), fI G.1 g_cl (fA h sz) s.heap h H locs → ∀ ls : Array Slot, lv_has ls 5 [(0, .int (nI wd)), (1, .int (nI kk)), (2, .ref (G.2.2.2 7)), (3, .int (nI (wS wd))), (4, .int (nI i))] → W p l e { frames := 4, cells := 0, slots := 0, locals := 85 } s m ([.int (nI wd), .int (nI kk)] : List Value).toArray below meth c H locs 0 0 (MQ below (cQi G h sz (fun r h' => r = (if kk = wL wd then -1 else nI (aL (wS wd + kk))) ∧ h' = h)) ([.int (nI wd), .int (nI kk)] : List Value).toArray s 0 0 (fA h sz)) (F0 m 42 ls []) := ih
      have h32 : aL (wS wd + i) ≠ 32 := aL_in wd hw i (by omega)
      refine lv_iload hx hb d_MO_wordByte_42 (lv_at hl 4 rfl) ?_
      refine lv_iload_n hx hb d_MO_wordByte_44 rfl (lv_at hl 1 rfl) ?_
      refine lv_icmp_ge (tgt := 69) hx hb d_MO_wordByte_45 (by decide) (fun c_8 => absurd c_8 (fun q => absurd ((n_le (a := kk) (b := i) (by omega) (by omega)).mp q) (by omega))) (fun c_8 => ?_)
      refine lv_aload_n hx hb d_MO_wordByte_48 rfl (lv_at hl 2 rfl) ?_
      refine lv_iload_n hx hb d_MO_wordByte_49 rfl (lv_at hl 3 rfl) ?_
      refine lv_iload hx hb d_MO_wordByte_50 (lv_at hl 4 rfl) ?_
      refine lv_iadd hx hb d_MO_wordByte_52 ?_
      refine f_asi (nI_add (wS wd) i) ?_
      refine f_calli hI (f_runV C hI (c_ST_at l G h _ 0 0 7 (G.2.2.2 7) (wS wd + i) 63 aL hS (by omega)) gm_ST_charAt w_377 w_378 w_960 g_w rfl rfl rfl hl.1 rfl (Nat.le_of_ble_eq_true rfl) ⟨Nat.le_of_ble_eq_true rfl, Nat.le_of_ble_eq_true rfl⟩ d_MO_wordByte_53 ⟨Nat.le_of_ble_eq_true rfl, Nat.le_of_ble_eq_true rfl⟩) (fun r_9 h8 H9 locs hp9 hX9 hz9 hI => ?_)
      obtain ⟨rfl, e9⟩ := hp9
      rw [e9] at hI
      clear hX9 e9
      refine lv_bipush (v := 32) hx hb d_MO_wordByte_56 (by decide) ?_
      refine lv_icmp_ne (tgt := 63) hx hb d_MO_wordByte_58 (by decide) (fun c_10 => ?_) (fun c_10 => absurd c_10 (fun q => h32 ((n_eq (b := 32) (by have := aL_lt (wS wd + i); omega) (by decide)).mp q)))
      refine lv_iinc (v := nI (i + 1)) (lv' := [(4, .int (nI (i + 1))), (0, .int (nI wd)), (1, .int (nI kk)), (2, .ref (G.2.2.2 7)), (3, .int (nI (wS wd)))]) hx hb d_MO_wordByte_63 hl (k := 4) rfl (f_inc1 _) (by decide) rfl (fun ls hl => ?_)
      refine lv_goto (tgt := 42) hx hb d_MO_wordByte_66 (by decide) ?_
      refine ih (i + 1) (by omega) _ _ hI ls ?_
      exact lv_sub hl [1, 2, 3, 4, 0] rfl
  have J8 : ∀ (k i : Nat), i + k = wd → ∀ (H : Heap) (locs : List Loc), fI G.1 g_cl (fA h sz) s.heap h H locs → ∀ ls : Array Slot, lv_has ls 5 [(0, .int (nI wd)), (1, .int (nI kk)), (2, .ref (G.2.2.2 7)), (3, .int (nI (wS i))), (4, .int (nI i))] → W p l e { frames := 4, cells := 0, slots := 0, locals := 85 } s m ([.int (nI wd), .int (nI kk)] : List Value).toArray below meth c H locs 0 0 (MQ below (cQi G h sz (fun r h' => r = (if kk = wL wd then -1 else nI (aL (wS wd + kk))) ∧ h' = h)) ([.int (nI wd), .int (nI kk)] : List Value).toArray s 0 0 (fA h sz)) (F0 m 8 ls []) := by
    intro k
    induction k with
    | zero =>
      intro i hi H locs hI ls hl
      have hi2 : wd = i := by omega
      subst hi2
      refine lv_iload hx hb d_MO_wordByte_8 (lv_at hl 4 rfl) ?_
      refine lv_iload_n hx hb d_MO_wordByte_10 rfl (lv_at hl 0 rfl) ?_
      refine lv_icmp_ge (tgt := 39) hx hb d_MO_wordByte_11 (by decide) (fun c_11 => ?_) (fun c_11 => absurd (l_rfI _) c_11)
      refine lv_iconst (v := 0) hx hb d_MO_wordByte_39 (by decide) ?_
      refine lv_istore (lv' := [(4, .int 0), (0, .int (nI wd)), (1, .int (nI kk)), (2, .ref (G.2.2.2 7)), (3, .int (nI (wS wd)))]) hx hb d_MO_wordByte_40 hl (by decide) rfl (fun ls hl => ?_)
      refine J42 kk 0 (by omega) _ _ hI ls ?_
      exact lv_sub hl [1, 2, 3, 4, 0] rfl
    | succ k ih =>
      intro i hi H locs hI ls hl
      have ih : ∀ i : Nat, i + k = wd → ∀ (H : Heap) (locs : List Loc), fI G.1 g_cl (fA h sz) s.heap h H locs → ∀ ls : Array Slot, lv_has ls 5 [(0, .int (nI wd)), (1, .int (nI kk)), (2, .ref (G.2.2.2 7)), (3, .int (nI (wS i))), (4, .int (nI i))] → W p l e { frames := 4, cells := 0, slots := 0, locals := 85 } s m ([.int (nI wd), .int (nI kk)] : List Value).toArray below meth c H locs 0 0 (MQ below (cQi G h sz (fun r h' => r = (if kk = wL wd then -1 else nI (aL (wS wd + kk))) ∧ h' = h)) ([.int (nI wd), .int (nI kk)] : List Value).toArray s 0 0 (fA h sz)) (F0 m 8 ls []) := ih
      have hi3 : i < 13 := by omega
      have hqi := aL_sp i hi3
      have J14 : ∀ (k2 t : Nat), t + k2 = wL i → ∀ (H : Heap) (locs : List Loc), fI G.1 g_cl (fA h sz) s.heap h H locs → ∀ ls : Array Slot, lv_has ls 5 [(0, .int (nI wd)), (1, .int (nI kk)), (2, .ref (G.2.2.2 7)), (3, .int (nI (wS i + t))), (4, .int (nI i))] → W p l e { frames := 4, cells := 0, slots := 0, locals := 85 } s m ([.int (nI wd), .int (nI kk)] : List Value).toArray below meth c H locs 0 0 (MQ below (cQi G h sz (fun r h' => r = (if kk = wL wd then -1 else nI (aL (wS wd + kk))) ∧ h' = h)) ([.int (nI wd), .int (nI kk)] : List Value).toArray s 0 0 (fA h sz)) (F0 m 14 ls []) := by
        intro k2
        induction k2 with
        | zero =>
          intro t ht H locs hI ls hl
          have h32 : aL (wS i + t) = 32 := by rw [show t = wL i by omega]; exact hqi.1
          refine lv_aload_n hx hb d_MO_wordByte_14 rfl (lv_at hl 2 rfl) ?_
          refine lv_iload_n hx hb d_MO_wordByte_15 rfl (lv_at hl 3 rfl) ?_
          refine f_calli hI (f_runV C hI (c_ST_at l G h _ 0 0 7 (G.2.2.2 7) (wS i + t) 63 aL hS (by omega)) gm_ST_charAt w_377 w_378 w_960 g_w rfl rfl rfl hl.1 rfl (Nat.le_of_ble_eq_true rfl) ⟨Nat.le_of_ble_eq_true rfl, Nat.le_of_ble_eq_true rfl⟩ d_MO_wordByte_16 ⟨Nat.le_of_ble_eq_true rfl, Nat.le_of_ble_eq_true rfl⟩) (fun r_12 h8 H9 locs hp9 hX9 hz9 hI => ?_)
          obtain ⟨rfl, e9⟩ := hp9
          rw [e9] at hI
          clear hX9 e9
          refine lv_bipush (v := 32) hx hb d_MO_wordByte_19 (by decide) ?_
          refine lv_icmp_eq (tgt := 30) hx hb d_MO_wordByte_21 (by decide) (fun c_13 => ?_) (fun c_13 => absurd (by rw [h32]; rfl) c_13)
          refine lv_iinc (v := nI (wS i + t + 1)) (lv' := [(3, .int (nI (wS i + t + 1))), (0, .int (nI wd)), (1, .int (nI kk)), (2, .ref (G.2.2.2 7)), (4, .int (nI i))]) hx hb d_MO_wordByte_30 hl (k := 3) rfl (f_inc1 _) (by decide) rfl (fun ls hl => ?_)
          refine lv_iinc (v := nI (i + 1)) (lv' := [(4, .int (nI (i + 1))), (3, .int (nI (wS i + t + 1))), (0, .int (nI wd)), (1, .int (nI kk)), (2, .ref (G.2.2.2 7))]) hx hb d_MO_wordByte_33 hl (k := 4) rfl (f_inc1 _) (by decide) rfl (fun ls hl => ?_)
          refine lv_goto (tgt := 8) hx hb d_MO_wordByte_36 (by decide) ?_
          refine ih (i + 1) (by omega) _ _ hI ls ?_
          rw [show wS (i + 1) = wS i + t + 1 by omega]
          exact lv_sub hl [2, 3, 4, 1, 0] rfl
        | succ k2 ih2 =>
          intro t ht H locs hI ls hl
          have ih2 : ∀ t : Nat, t + k2 = wL i → ∀ (H : Heap) (locs : List Loc), fI G.1 g_cl (fA h sz) s.heap h H locs → ∀ ls : Array Slot, lv_has ls 5 [(0, .int (nI wd)), (1, .int (nI kk)), (2, .ref (G.2.2.2 7)), (3, .int (nI (wS i + t))), (4, .int (nI i))] → W p l e { frames := 4, cells := 0, slots := 0, locals := 85 } s m ([.int (nI wd), .int (nI kk)] : List Value).toArray below meth c H locs 0 0 (MQ below (cQi G h sz (fun r h' => r = (if kk = wL wd then -1 else nI (aL (wS wd + kk))) ∧ h' = h)) ([.int (nI wd), .int (nI kk)] : List Value).toArray s 0 0 (fA h sz)) (F0 m 14 ls []) := ih2
          have h32 : aL (wS i + t) ≠ 32 := aL_in i hi3 t (by omega)
          refine lv_aload_n hx hb d_MO_wordByte_14 rfl (lv_at hl 2 rfl) ?_
          refine lv_iload_n hx hb d_MO_wordByte_15 rfl (lv_at hl 3 rfl) ?_
          refine f_calli hI (f_runV C hI (c_ST_at l G h _ 0 0 7 (G.2.2.2 7) (wS i + t) 63 aL hS (by omega)) gm_ST_charAt w_377 w_378 w_960 g_w rfl rfl rfl hl.1 rfl (Nat.le_of_ble_eq_true rfl) ⟨Nat.le_of_ble_eq_true rfl, Nat.le_of_ble_eq_true rfl⟩ d_MO_wordByte_16 ⟨Nat.le_of_ble_eq_true rfl, Nat.le_of_ble_eq_true rfl⟩) (fun r_14 h8 H9 locs hp9 hX9 hz9 hI => ?_)
          obtain ⟨rfl, e9⟩ := hp9
          rw [e9] at hI
          clear hX9 e9
          refine lv_bipush (v := 32) hx hb d_MO_wordByte_19 (by decide) ?_
          refine lv_icmp_eq (tgt := 30) hx hb d_MO_wordByte_21 (by decide) (fun c_15 => absurd c_15 (fun q => h32 ((n_eq (b := 32) (by have := aL_lt (wS i + t); omega) (by decide)).mp q))) (fun c_15 => ?_)
          refine lv_iinc (v := nI (wS i + t + 1)) (lv' := [(3, .int (nI (wS i + t + 1))), (0, .int (nI wd)), (1, .int (nI kk)), (2, .ref (G.2.2.2 7)), (4, .int (nI i))]) hx hb d_MO_wordByte_24 hl (k := 3) rfl (f_inc1 _) (by decide) rfl (fun ls hl => ?_)
          refine lv_goto (tgt := 14) hx hb d_MO_wordByte_27 (by decide) ?_
          refine ih2 (t + 1) (by omega) _ _ hI ls ?_
          exact lv_sub hl [1, 2, 3, 0, 4] rfl
      refine lv_iload hx hb d_MO_wordByte_8 (lv_at hl 4 rfl) ?_
      refine lv_iload_n hx hb d_MO_wordByte_10 rfl (lv_at hl 0 rfl) ?_
      refine lv_icmp_ge (tgt := 39) hx hb d_MO_wordByte_11 (by decide) (fun c_16 => absurd c_16 (fun q => absurd ((n_le (a := wd) (b := i) (by omega) (by omega)).mp q) (by omega))) (fun c_16 => ?_)
      refine J14 (wL i) 0 (by omega) _ _ hI ls ?_
      exact lv_sub hl [0, 1, 2, 3, 4] rfl
  refine va_ldcS hx hb hown (hG.2.2.2.1 _ w_959) d_MO_wordByte_0 ?_
  refine lv_astore_n (lv' := [(2, .ref (G.2.2.2 7)), (0, .int (nI wd)), (1, .int (nI kk))]) hx hb d_MO_wordByte_2 rfl hl (by decide) rfl (fun ls hl => ?_)
  refine lv_iconst (v := 0) hx hb d_MO_wordByte_3 (by decide) ?_
  refine lv_istore_n (lv' := [(3, .int 0), (2, .ref (G.2.2.2 7)), (0, .int (nI wd)), (1, .int (nI kk))]) hx hb d_MO_wordByte_4 rfl hl (by decide) rfl (fun ls hl => ?_)
  refine lv_iconst (v := 0) hx hb d_MO_wordByte_5 (by decide) ?_
  refine lv_istore (lv' := [(4, .int 0), (3, .int 0), (2, .ref (G.2.2.2 7)), (0, .int (nI wd)), (1, .int (nI kk))]) hx hb d_MO_wordByte_6 hl (by decide) rfl (fun ls hl => ?_)
  refine J8 wd 0 (by omega) _ _ hI ls ?_
  exact lv_sub hl [3, 4, 2, 1, 0] rfl
theorem gm_MO_wordSize : gM y_MO_wordSize b_MO_wordSize 2 (some .int) 1 := ⟨w_955, w_10, ⟨by decide, by decide⟩, by decide +kernel⟩
set_option maxHeartbeats 4000000 in
set_option maxRecDepth 100000 in
/-- MO_wordSize  -/
theorem c_MO_wordSize (l : Launch) (G : gG) (h : fH) (sz : Nat) (wd : Nat) (hS : sT G h 0 0 7 (G.2.2.2 7) aL 63) (hw : wd < 13) : cM l y_MO_wordSize b_MO_wordSize 2 (some .int) { frames := 5, cells := 0, slots := 0, locals := 109 } G [.int (nI wd)] h sz (cQi G h sz (fun r h' => r = nI (wL wd) ∧ h' = h)) := by
  refine f_start (by decide) (Nat.le_of_ble_eq_true rfl) ?_
  intro p e s m below meth c ls C hr hsz hI hl
  obtain ⟨hx, hb, hml, hown, hnm, hlk, hT, hG, hZ⟩ := id C
  have hK := hG.1
  have hX : fX h sz h := fX.rf
  have hl : lv_has ls 2 [(0, .int (nI wd))] := hl
  have hq0 := aL_sp wd hw
  have J2 : ∀ (k n : Nat), n + k = wL wd → ∀ (H : Heap) (locs : List Loc), fI G.1 g_cl (fA h sz) s.heap h H locs → ∀ ls : Array Slot, lv_has ls 2 [(0, .int (nI wd)), (1, .int (nI n))] → W p l e { frames := 5, cells := 0, slots := 0, locals := 109 } s m ([.int (nI wd)] : List Value).toArray below meth c H locs 0 0 (MQ below (cQi G h sz (fun r h' => r = nI (wL wd) ∧ h' = h)) ([.int (nI wd)] : List Value).toArray s 0 0 (fA h sz)) (F0 m 2 ls []) := by
    intro k
    induction k with
    | zero =>
      intro n hn H locs hI ls hl
      refine lv_iload_n hx hb d_MO_wordSize_2 rfl (lv_at hl 0 rfl) ?_
      refine lv_iload_n hx hb d_MO_wordSize_3 rfl (lv_at hl 1 rfl) ?_
      refine f_calli hI (f_runS C hI (c_MO_wordByte l G h _ wd n hS hw (by omega)) gm_MO_wordByte w_957 w_956 rfl hl.1 rfl (Nat.le_of_ble_eq_true rfl) ⟨Nat.le_of_ble_eq_true rfl, Nat.le_of_ble_eq_true rfl⟩ d_MO_wordSize_4 ⟨Nat.le_of_ble_eq_true rfl, Nat.le_of_ble_eq_true rfl⟩) (fun r_1 h8 H9 locs hp9 hX9 hz9 hI => ?_)
      obtain ⟨rfl, e9⟩ := hp9
      rw [e9] at hI
      clear hX9 e9
      refine f_asi (if_pos (show n = wL wd by omega)) ?_
      refine lv_iconst (v := (-1)) hx hb d_MO_wordSize_7 (by decide) ?_
      refine lv_icmp_eq (tgt := 17) hx hb d_MO_wordSize_8 (by decide) (fun c_2 => ?_) (fun c_2 => absurd rfl c_2)
      refine lv_iload_n hx hb d_MO_wordSize_17 rfl (lv_at hl 1 rfl) ?_
      exact f_iret C hr hI ⟨by rw [show n = wL wd by omega], rfl⟩ hX (Nat.le_refl _) (Nat.le_refl _) d_MO_wordSize_18
    | succ k ih =>
      intro n hn H locs hI ls hl
      have ih : ∀ n : Nat, n + k = wL wd → ∀ (H : Heap) (locs : List Loc), fI G.1 g_cl (fA h sz) s.heap h H locs → ∀ ls : Array Slot, lv_has ls 2 [(0, .int (nI wd)), (1, .int (nI n))] → W p l e { frames := 5, cells := 0, slots := 0, locals := 109 } s m ([.int (nI wd)] : List Value).toArray below meth c H locs 0 0 (MQ below (cQi G h sz (fun r h' => r = nI (wL wd) ∧ h' = h)) ([.int (nI wd)] : List Value).toArray s 0 0 (fA h sz)) (F0 m 2 ls []) := ih
      refine lv_iload_n hx hb d_MO_wordSize_2 rfl (lv_at hl 0 rfl) ?_
      refine lv_iload_n hx hb d_MO_wordSize_3 rfl (lv_at hl 1 rfl) ?_
      refine f_calli hI (f_runS C hI (c_MO_wordByte l G h _ wd n hS hw (by omega)) gm_MO_wordByte w_957 w_956 rfl hl.1 rfl (Nat.le_of_ble_eq_true rfl) ⟨Nat.le_of_ble_eq_true rfl, Nat.le_of_ble_eq_true rfl⟩ d_MO_wordSize_4 ⟨Nat.le_of_ble_eq_true rfl, Nat.le_of_ble_eq_true rfl⟩) (fun r_3 h8 H9 locs hp9 hX9 hz9 hI => ?_)
      obtain ⟨rfl, e9⟩ := hp9
      rw [e9] at hI
      clear hX9 e9
      refine f_asi (if_neg (show ¬ n = wL wd by omega)) ?_
      refine lv_iconst (v := (-1)) hx hb d_MO_wordSize_7 (by decide) ?_
      refine lv_icmp_eq (tgt := 17) hx hb d_MO_wordSize_8 (by decide) (fun c_4 => absurd c_4 (n_m1 (by have := aL_lt (wS wd + n); omega))) (fun c_4 => ?_)
      refine lv_iinc (v := nI (n + 1)) (lv' := [(1, .int (nI (n + 1))), (0, .int (nI wd))]) hx hb d_MO_wordSize_11 hl (k := 1) rfl (f_inc1 _) (by decide) rfl (fun ls hl => ?_)
      refine lv_goto (tgt := 2) hx hb d_MO_wordSize_14 (by decide) ?_
      refine ih (n + 1) (by omega) _ _ hI ls ?_
      exact lv_sub hl [1, 0] rfl
  refine lv_iconst (v := 0) hx hb d_MO_wordSize_0 (by decide) ?_
  refine lv_istore_n (lv' := [(1, .int 0), (0, .int (nI wd))]) hx hb d_MO_wordSize_1 rfl hl (by decide) rfl (fun ls hl => ?_)
  refine J2 (wL wd) 0 (by omega) _ _ hI ls ?_
  exact lv_sub hl [1, 0] rfl
theorem gm_MO_is : gM y_MO_is b_MO_is 3 (some .boolean) 1 := ⟨w_952, w_10, ⟨by decide, by decide⟩, by decide +kernel⟩
set_option maxHeartbeats 4000000 in
set_option maxRecDepth 100000 in
/-- MO_is  -/
theorem c_MO_is (l : Launch) (G : gG) (h : fH) (sz : Nat) (x b e0 wd : Nat) (mf : Nat → Value) (g_x : h x = some (40, 0, .inr (8, mo mf))) (tn : Nat) (tx : Nat → Nat) (hTx : mTx G h mf tn tx) (hS : sT G h 0 0 7 (G.2.2.2 7) aL 63) (v_34 : mf 34 = .int (nI b)) (v_35 : mf 35 = .int (nI e0)) (bb : b ≤ e0) (be : e0 ≤ tn) (hw : wd < 13) : cM l y_MO_is b_MO_is 3 (some .boolean) { frames := 6, cells := 0, slots := 0, locals := 130 } G [.ref x, .int (nI wd)] h sz (cQi G h sz (fun r h' => ((r = 1 ∧ eqW tx b e0 wd) ∨ (r = 0 ∧ ¬ eqW tx b e0 wd)) ∧ h' = h)) := by
  refine f_start (by decide) (Nat.le_of_ble_eq_true rfl) ?_
  intro p e s m below meth c ls C hr hsz hI hl
  obtain ⟨hx, hb, hml, hown, hnm, hlk, hT, hG, hZ⟩ := id C
  have hK := hG.1
  have hX : fX h sz h := fX.rf
  have hl : lv_has ls 3 [(0, .ref x), (1, .int (nI wd))] := hl
  obtain ⟨a0, ⟨v_0, v_1⟩, g_a0, btn, btx⟩ := hTx
  have hq0 := aL_sp wd hw
  have J20 : e0 - b = wL wd → ∀ (k n : Nat), n + k = wL wd → (∀ j, j < n → tx (b + j) = aL (wS wd + j)) → ∀ (H : Heap) (locs : List Loc), fI G.1 g_cl (fA h sz) s.heap h H locs → ∀ ls : Array Slot, lv_has ls 3 [(0, .ref x), (1, .int (nI wd)), (2, .int (nI n))] → W p l e { frames := 6, cells := 0, slots := 0, locals := 130 } s m ([.ref x, .int (nI wd)] : List Value).toArray below meth c H locs 0 0 (MQ below (cQi G h sz (fun r h' => ((r = 1 ∧ eqW tx b e0 wd) ∨ (r = 0 ∧ ¬ eqW tx b e0 wd)) ∧ h' = h)) ([.ref x, .int (nI wd)] : List Value).toArray s 0 0 (fA h sz)) (F0 m 20 ls []) := by
    intro hlen k
    induction k with
    | zero =>
      intro n hn hall H locs hI ls hl
      refine lv_iload_n hx hb d_MO_is_20 rfl (lv_at hl 2 rfl) ?_
      refine lv_iload_n hx hb d_MO_is_21 rfl (lv_at hl 1 rfl) ?_
      refine f_calli hI (f_runS C hI (c_MO_wordSize l G h _ wd hS hw) gm_MO_wordSize w_954 w_953 rfl hl.1 rfl (Nat.le_of_ble_eq_true rfl) ⟨Nat.le_of_ble_eq_true rfl, Nat.le_of_ble_eq_true rfl⟩ d_MO_is_22 ⟨Nat.le_of_ble_eq_true rfl, Nat.le_of_ble_eq_true rfl⟩) (fun r_1 h8 H9 locs hp9 hX9 hz9 hI => ?_)
      obtain ⟨rfl, e9⟩ := hp9
      rw [e9] at hI
      clear hX9 e9
      refine lv_icmp_ge (tgt := 55) hx hb d_MO_is_25 (by decide) (fun c_2 => ?_) (fun c_2 => absurd ((n_le (a := wL wd) (b := n) (by omega) (by omega)).mpr (by omega)) c_2)
      refine lv_iconst (v := 1) hx hb d_MO_is_55 (by decide) ?_
      exact f_zret C hr rfl hI ⟨Or.inl ⟨rfl, hlen, fun j hj => hall j (by omega)⟩, rfl⟩ hX (Nat.le_refl _) (Nat.le_refl _) d_MO_is_56
    | succ k ih =>
      intro n hn hall H locs hI ls hl
      have ih : ∀ n : Nat, n + k = wL wd → (∀ j, j < n → tx (b + j) = aL (wS wd + j)) → ∀ (H : Heap) (locs : List Loc), fI G.1 g_cl (fA h sz) s.heap h H locs → ∀ ls : Array Slot, lv_has ls 3 [(0, .ref x), (1, .int (nI wd)), (2, .int (nI n))] → W p l e { frames := 6, cells := 0, slots := 0, locals := 130 } s m ([.ref x, .int (nI wd)] : List Value).toArray below meth c H locs 0 0 (MQ below (cQi G h sz (fun r h' => ((r = 1 ∧ eqW tx b e0 wd) ∨ (r = 0 ∧ ¬ eqW tx b e0 wd)) ∧ h' = h)) ([.ref x, .int (nI wd)] : List Value).toArray s 0 0 (fA h sz)) (F0 m 20 ls []) := ih
      refine lv_iload_n hx hb d_MO_is_20 rfl (lv_at hl 2 rfl) ?_
      refine lv_iload_n hx hb d_MO_is_21 rfl (lv_at hl 1 rfl) ?_
      refine f_calli hI (f_runS C hI (c_MO_wordSize l G h _ wd hS hw) gm_MO_wordSize w_954 w_953 rfl hl.1 rfl (Nat.le_of_ble_eq_true rfl) ⟨Nat.le_of_ble_eq_true rfl, Nat.le_of_ble_eq_true rfl⟩ d_MO_is_22 ⟨Nat.le_of_ble_eq_true rfl, Nat.le_of_ble_eq_true rfl⟩) (fun r_3 h8 H9 locs hp9 hX9 hz9 hI => ?_)
      obtain ⟨rfl, e9⟩ := hp9
      rw [e9] at hI
      clear hX9 e9
      refine lv_icmp_ge (tgt := 55) hx hb d_MO_is_25 (by decide) (fun c_4 => absurd c_4 (fun q => absurd ((n_le (a := wL wd) (b := n) (by omega) (by omega)).mp q) (by omega))) (fun c_4 => ?_)
      refine lv_aload_n hx hb d_MO_is_28 rfl (lv_at hl 0 rfl) ?_
      refine f_get (C := "DutyRulesModel") (T := T_MO) (N := 40) hx hb (fun w q => hT w (s_MO w q)) hown hK hI g_x rfl 0 (by decide) (hT _ w_809) (fun _ q => q) (mo_get (by decide) v_0) d_MO_is_29 ?_
      refine lv_aload_n hx hb d_MO_is_32 rfl (lv_at hl 0 rfl) ?_
      refine f_get (C := "DutyRulesModel") (T := T_MO) (N := 40) hx hb (fun w q => hT w (s_MO w q)) hown hK hI g_x rfl 34 (by decide) (hT _ w_843) (fun _ q => q) (mo_get (by decide) v_34) d_MO_is_33 ?_
      refine lv_iload_n hx hb d_MO_is_36 rfl (lv_at hl 2 rfl) ?_
      refine lv_iadd hx hb d_MO_is_37 ?_
      refine f_asi (nI_add b n) ?_
      refine f_ialdn (k := (b + n)) (v := (nI (tx (b + n)))) hx hb hI g_a0 (fT.ofK hK (t0 := 0) rfl) (by omega) (by omega) rfl d_MO_is_38 ?_
      refine lv_iload_n hx hb d_MO_is_39 rfl (lv_at hl 1 rfl) ?_
      refine lv_iload_n hx hb d_MO_is_40 rfl (lv_at hl 2 rfl) ?_
      refine f_calli hI (f_runS C hI (c_MO_wordByte l G h _ wd n hS hw (by omega)) gm_MO_wordByte w_957 w_956 rfl hl.1 rfl (Nat.le_of_ble_eq_true rfl) ⟨Nat.le_of_ble_eq_true rfl, Nat.le_of_ble_eq_true rfl⟩ d_MO_is_41 ⟨Nat.le_of_ble_eq_true rfl, Nat.le_of_ble_eq_true rfl⟩) (fun r_5 h8 H9 locs hp9 hX9 hz9 hI => ?_)
      obtain ⟨rfl, e9⟩ := hp9
      rw [e9] at hI
      clear hX9 e9
      refine f_asi (if_neg (show ¬ n = wL wd by omega)) ?_
      refine lv_icmp_eq (tgt := 49) hx hb d_MO_is_44 (by decide) (fun c_6 => ?_) (fun c_6 => ?_)
      · have c_6 : (tx (b + n)) = (aL (wS wd + n)) := (n_eq (a := (tx (b + n))) (b := (aL (wS wd + n))) (by have := btx (b + n); omega) (by have := aL_lt (wS wd + n); omega)).mp c_6
        refine lv_iinc (v := nI (n + 1)) (lv' := [(2, .int (nI (n + 1))), (0, .ref x), (1, .int (nI wd))]) hx hb d_MO_is_49 hl (k := 2) rfl (f_inc1 _) (by decide) rfl (fun ls hl => ?_)
        refine lv_goto (tgt := 20) hx hb d_MO_is_52 (by decide) ?_
        refine ih (n + 1) (by omega) (fun j hj => ?_) _ _ hI ls ?_
        · by_cases hjn : j = n
          · rw [hjn]; exact c_6
          · exact hall j (by omega)
        exact lv_sub hl [1, 2, 0] rfl
      · have c_6 : ¬ (tx (b + n)) = (aL (wS wd + n)) := fun q => c_6 ((n_eq (a := (tx (b + n))) (b := (aL (wS wd + n))) (by have := btx (b + n); omega) (by have := aL_lt (wS wd + n); omega)).mpr q)
        refine lv_iconst (v := 0) hx hb d_MO_is_47 (by decide) ?_
        exact f_zret C hr rfl hI ⟨Or.inr ⟨rfl, fun q => c_6 (q.2 n (by omega))⟩, rfl⟩ hX (Nat.le_refl _) (Nat.le_refl _) d_MO_is_48
  refine lv_aload_n hx hb d_MO_is_0 rfl (lv_at hl 0 rfl) ?_
  refine f_get (C := "DutyRulesModel") (T := T_MO) (N := 40) hx hb (fun w q => hT w (s_MO w q)) hown hK hI g_x rfl 35 (by decide) (hT _ w_844) (fun _ q => q) (mo_get (by decide) v_35) d_MO_is_1 ?_
  refine lv_aload_n hx hb d_MO_is_4 rfl (lv_at hl 0 rfl) ?_
  refine f_get (C := "DutyRulesModel") (T := T_MO) (N := 40) hx hb (fun w q => hT w (s_MO w q)) hown hK hI g_x rfl 34 (by decide) (hT _ w_843) (fun _ q => q) (mo_get (by decide) v_34) d_MO_is_5 ?_
  refine lv_isub hx hb d_MO_is_8 ?_
  refine f_asi (pk_sub (a := e0) (b := b) (by omega)) ?_
  refine lv_iload_n hx hb d_MO_is_9 rfl (lv_at hl 1 rfl) ?_
  refine f_calli hI (f_runS C hI (c_MO_wordSize l G h _ wd hS hw) gm_MO_wordSize w_954 w_953 rfl hl.1 rfl (Nat.le_of_ble_eq_true rfl) ⟨Nat.le_of_ble_eq_true rfl, Nat.le_of_ble_eq_true rfl⟩ d_MO_is_10 ⟨Nat.le_of_ble_eq_true rfl, Nat.le_of_ble_eq_true rfl⟩) (fun r_7 h8 H9 locs hp9 hX9 hz9 hI => ?_)
  obtain ⟨rfl, e9⟩ := hp9
  rw [e9] at hI
  clear hX9 e9
  refine lv_icmp_eq (tgt := 18) hx hb d_MO_is_13 (by decide) (fun c_8 => ?_) (fun c_8 => ?_)
  · have c_8 : (e0 - b) = (wL wd) := (n_eq (a := (e0 - b)) (b := (wL wd)) (by omega) (by omega)).mp c_8
    refine lv_iconst (v := 0) hx hb d_MO_is_18 (by decide) ?_
    refine lv_istore_n (lv' := [(2, .int 0), (0, .ref x), (1, .int (nI wd))]) hx hb d_MO_is_19 rfl hl (by decide) rfl (fun ls hl => ?_)
    refine J20 c_8 (wL wd) 0 (by omega) (fun j hj => absurd hj (Nat.not_lt_zero j)) _ _ hI ls ?_
    exact lv_sub hl [1, 2, 0] rfl
  · have c_8 : ¬ (e0 - b) = (wL wd) := fun q => c_8 ((n_eq (a := (e0 - b)) (b := (wL wd)) (by omega) (by omega)).mpr q)
    refine lv_iconst (v := 0) hx hb d_MO_is_16 (by decide) ?_
    exact f_zret C hr rfl hI ⟨Or.inr ⟨rfl, fun q => c_8 q.1⟩, rfl⟩ hX (Nat.le_refl _) (Nat.le_refl _) d_MO_is_17
theorem gm_MO_number : gM y_MO_number b_MO_number 4 (some .int) 1 := ⟨w_969, w_10, ⟨by decide, by decide⟩, by decide +kernel⟩
set_option maxHeartbeats 4000000 in
set_option maxRecDepth 100000 in
/-- MO_number  -/
theorem c_MO_number (l : Launch) (G : gG) (h : fH) (sz : Nat) (x b e0 M : Nat) (mf : Nat → Value) (g_x : h x = some (40, 0, .inr (8, mo mf))) (tn : Nat) (tx : Nat → Nat) (hTx : mTx G h mf tn tx) (v_34 : mf 34 = .int (nI b)) (v_35 : mf 35 = .int (nI e0)) (bb : b ≤ e0) (be : e0 ≤ tn) (bM : M < 2 ^ 31) : cM l y_MO_number b_MO_number 4 (some .int) { frames := 0, cells := 0, slots := 0, locals := 0 } G [.ref x, .int (nI M)] h sz (cQi G h sz (fun r h' => r = oN (nmM tx b e0 M) ∧ h' = h)) := by
  refine f_start (by decide) (Nat.le_of_ble_eq_true rfl) ?_
  intro p e s m below meth c ls C hr hsz hI hl
  obtain ⟨hx, hb, hml, hown, hnm, hlk, hT, hG, hZ⟩ := id C
  have hK := hG.1
  have hX : fX h sz h := fX.rf
  have hl : lv_has ls 4 [(0, .ref x), (1, .int (nI M))] := hl
  obtain ⟨a0, ⟨v_0, v_1⟩, g_a0, btn, btx⟩ := hTx
  have J61 : e0 - b ≤ 9 → ∀ (k i t v : Nat), i + k = e0 → nm tx b e0 = dv tx i k v → i = b + t → v < 10 ^ t → ∀ ls : Array Slot, lv_has ls 4 [(0, .ref x), (1, .int (nI M)), (2, .int (nI v)), (3, .int (nI i))] → W p l e { frames := 0, cells := 0, slots := 0, locals := 0 } s m ([.ref x, .int (nI M)] : List Value).toArray below meth c s.heap [] 0 0 (MQ below (cQi G h sz (fun r h' => r = oN (nmM tx b e0 M) ∧ h' = h)) ([.ref x, .int (nI M)] : List Value).toArray s 0 0 (fA h sz)) (F0 m 61 ls []) := by
    intro h9 k
    induction k with
    | zero =>
      intro i t v hi hd hit hv ls hl
      have hv9 := p9 hv (by omega)
      have hd : nm tx b e0 = some v := hd
      refine lv_iload_n hx hb d_MO_number_61 rfl (lv_at hl 3 rfl) ?_
      refine lv_aload_n hx hb d_MO_number_62 rfl (lv_at hl 0 rfl) ?_
      refine f_get (C := "DutyRulesModel") (T := T_MO) (N := 40) hx hb (fun w q => hT w (s_MO w q)) hown hK hI g_x rfl 35 (by decide) (hT _ w_844) (fun _ q => q) (mo_get (by decide) v_35) d_MO_number_63 ?_
      refine lv_icmp_ge (tgt := 114) hx hb d_MO_number_66 (by decide) (fun c_1 => ?_) (fun c_1 => absurd ((n_le (a := e0) (b := i) (by omega) (by omega)).mpr (by omega)) c_1)
      refine lv_iload_n hx hb d_MO_number_114 rfl (lv_at hl 2 rfl) ?_
      refine lv_iload_n hx hb d_MO_number_115 rfl (lv_at hl 1 rfl) ?_
      refine lv_icmp_le (tgt := 123) hx hb d_MO_number_116 (by decide) (fun c_2 => ?_) (fun c_2 => ?_)
      · have c_2 : v ≤ M := (n_le (a := v) (b := M) (by omega) (by omega)).mp c_2
        refine lv_iload_n hx hb d_MO_number_123 rfl (lv_at hl 2 rfl) ?_
        exact f_iret C hr hI ⟨by unfold nmM; rw [hd]; dsimp only; rw [if_neg (show ¬ M < v by omega)]; rfl, rfl⟩ hX (Nat.le_refl _) (Nat.le_refl _) d_MO_number_124
      · have c_2 : ¬ v ≤ M := fun q => c_2 ((n_le (a := v) (b := M) (by omega) (by omega)).mpr q)
        refine lv_iconst (v := (-1)) hx hb d_MO_number_119 (by decide) ?_
        refine lv_goto (tgt := 124) hx hb d_MO_number_120 (by decide) ?_
        exact f_iret C hr hI ⟨by unfold nmM; rw [hd]; dsimp only; rw [if_pos (show M < v by omega)]; rfl, rfl⟩ hX (Nat.le_refl _) (Nat.le_refl _) d_MO_number_124
    | succ k ih =>
      intro i t v hi hd hit hv ls hl
      have ih : ∀ i t v : Nat, i + k = e0 → nm tx b e0 = dv tx i k v → i = b + t → v < 10 ^ t → ∀ ls : Array Slot, lv_has ls 4 [(0, .ref x), (1, .int (nI M)), (2, .int (nI v)), (3, .int (nI i))] → W p l e { frames := 0, cells := 0, slots := 0, locals := 0 } s m ([.ref x, .int (nI M)] : List Value).toArray below meth c s.heap [] 0 0 (MQ below (cQi G h sz (fun r h' => r = oN (nmM tx b e0 M) ∧ h' = h)) ([.ref x, .int (nI M)] : List Value).toArray s 0 0 (fA h sz)) (F0 m 61 ls []) := ih
      have hv9 := p9 hv (by omega)
      refine lv_iload_n hx hb d_MO_number_61 rfl (lv_at hl 3 rfl) ?_
      refine lv_aload_n hx hb d_MO_number_62 rfl (lv_at hl 0 rfl) ?_
      refine f_get (C := "DutyRulesModel") (T := T_MO) (N := 40) hx hb (fun w q => hT w (s_MO w q)) hown hK hI g_x rfl 35 (by decide) (hT _ w_844) (fun _ q => q) (mo_get (by decide) v_35) d_MO_number_63 ?_
      refine lv_icmp_ge (tgt := 114) hx hb d_MO_number_66 (by decide) (fun c_3 => absurd c_3 (fun q => absurd ((n_le (a := e0) (b := i) (by omega) (by omega)).mp q) (by omega))) (fun c_3 => ?_)
      refine lv_aload_n hx hb d_MO_number_69 rfl (lv_at hl 0 rfl) ?_
      refine f_get (C := "DutyRulesModel") (T := T_MO) (N := 40) hx hb (fun w q => hT w (s_MO w q)) hown hK hI g_x rfl 0 (by decide) (hT _ w_809) (fun _ q => q) (mo_get (by decide) v_0) d_MO_number_70 ?_
      refine lv_iload_n hx hb d_MO_number_73 rfl (lv_at hl 3 rfl) ?_
      refine f_ialdn (k := i) (v := (nI (tx i))) hx hb hI g_a0 (fT.ofK hK (t0 := 0) rfl) (by omega) (by omega) rfl d_MO_number_74 ?_
      refine lv_bipush (v := 48) hx hb d_MO_number_75 (by decide) ?_
      refine lv_icmp_lt (tgt := 91) hx hb d_MO_number_77 (by decide) (fun c_4 => ?_) (fun c_4 => ?_)
      · have c_4 : (tx i) < 48 := (n_lt (a := (tx i)) (b := 48) (by have := btx i; omega) (by omega)).mp c_4
        refine lv_iconst (v := (-1)) hx hb d_MO_number_91 (by decide) ?_
        exact f_iret C hr hI ⟨by unfold nmM; rw [hd, show dv tx i (k + 1) v = none from if_neg (fun q => by omega)]; rfl, rfl⟩ hX (Nat.le_refl _) (Nat.le_refl _) d_MO_number_92
      · have c_4 : ¬ (tx i) < 48 := fun q => c_4 ((n_lt (a := (tx i)) (b := 48) (by have := btx i; omega) (by omega)).mpr q)
        refine lv_aload_n hx hb d_MO_number_80 rfl (lv_at hl 0 rfl) ?_
        refine f_get (C := "DutyRulesModel") (T := T_MO) (N := 40) hx hb (fun w q => hT w (s_MO w q)) hown hK hI g_x rfl 0 (by decide) (hT _ w_809) (fun _ q => q) (mo_get (by decide) v_0) d_MO_number_81 ?_
        refine lv_iload_n hx hb d_MO_number_84 rfl (lv_at hl 3 rfl) ?_
        refine f_ialdn (k := i) (v := (nI (tx i))) hx hb hI g_a0 (fT.ofK hK (t0 := 0) rfl) (by omega) (by omega) rfl d_MO_number_85 ?_
        refine lv_bipush (v := 57) hx hb d_MO_number_86 (by decide) ?_
        refine lv_icmp_le (tgt := 93) hx hb d_MO_number_88 (by decide) (fun c_5 => ?_) (fun c_5 => ?_)
        · have c_5 : (tx i) ≤ 57 := (n_le (a := (tx i)) (b := 57) (by have := btx i; omega) (by omega)).mp c_5
          refine lv_bipush (v := 10) hx hb d_MO_number_93 (by decide) ?_
          refine lv_iload_n hx hb d_MO_number_95 rfl (lv_at hl 2 rfl) ?_
          refine lv_imul hx hb d_MO_number_96 ?_
          refine f_asi (pk_mul 10 v) ?_
          refine lv_aload_n hx hb d_MO_number_97 rfl (lv_at hl 0 rfl) ?_
          refine f_get (C := "DutyRulesModel") (T := T_MO) (N := 40) hx hb (fun w q => hT w (s_MO w q)) hown hK hI g_x rfl 0 (by decide) (hT _ w_809) (fun _ q => q) (mo_get (by decide) v_0) d_MO_number_98 ?_
          refine lv_iload_n hx hb d_MO_number_101 rfl (lv_at hl 3 rfl) ?_
          refine f_ialdn (k := i) (v := (nI (tx i))) hx hb hI g_a0 (fT.ofK hK (t0 := 0) rfl) (by omega) (by omega) rfl d_MO_number_102 ?_
          refine lv_iadd hx hb d_MO_number_103 ?_
          refine f_asi (nI_add (10 * v) (tx i)) ?_
          refine lv_bipush (v := 48) hx hb d_MO_number_104 (by decide) ?_
          refine lv_isub hx hb d_MO_number_106 ?_
          refine f_asi (pk_sub (a := ((10 * v) + (tx i))) (b := 48) (by have := btx i; omega)) ?_
          refine lv_istore_n (lv' := [(2, .int (nI (((10 * v) + (tx i)) - 48))), (0, .ref x), (1, .int (nI M)), (3, .int (nI i))]) hx hb d_MO_number_107 rfl hl (by decide) rfl (fun ls hl => ?_)
          refine lv_iinc (v := nI (i + 1)) (lv' := [(3, .int (nI (i + 1))), (2, .int (nI (((10 * v) + (tx i)) - 48))), (0, .ref x), (1, .int (nI M))]) hx hb d_MO_number_108 hl (k := 3) rfl (f_inc1 _) (by decide) rfl (fun ls hl => ?_)
          refine lv_goto (tgt := 61) hx hb d_MO_number_111 (by decide) ?_
          have hdg : 48 ≤ tx i ∧ tx i ≤ 57 := by omega
          refine ih (i + 1) (t + 1) (10 * v + tx i - 48) (by omega) (hd.trans (if_pos hdg)) (by omega) (by have := p10 (d := tx i - 48) hv (by omega); omega) ls ?_
          exact lv_sub hl [2, 3, 1, 0] rfl
        · have c_5 : ¬ (tx i) ≤ 57 := fun q => c_5 ((n_le (a := (tx i)) (b := 57) (by have := btx i; omega) (by omega)).mpr q)
          refine lv_iconst (v := (-1)) hx hb d_MO_number_91 (by decide) ?_
          exact f_iret C hr hI ⟨by unfold nmM; rw [hd, show dv tx i (k + 1) v = none from if_neg (fun q => by omega)]; rfl, rfl⟩ hX (Nat.le_refl _) (Nat.le_refl _) d_MO_number_92
  refine lv_aload_n hx hb d_MO_number_0 rfl (lv_at hl 0 rfl) ?_
  refine f_get (C := "DutyRulesModel") (T := T_MO) (N := 40) hx hb (fun w q => hT w (s_MO w q)) hown hK hI g_x rfl 34 (by decide) (hT _ w_843) (fun _ q => q) (mo_get (by decide) v_34) d_MO_number_1 ?_
  refine lv_aload_n hx hb d_MO_number_4 rfl (lv_at hl 0 rfl) ?_
  refine f_get (C := "DutyRulesModel") (T := T_MO) (N := 40) hx hb (fun w q => hT w (s_MO w q)) hown hK hI g_x rfl 35 (by decide) (hT _ w_844) (fun _ q => q) (mo_get (by decide) v_35) d_MO_number_5 ?_
  refine lv_icmp_eq (tgt := 52) hx hb d_MO_number_8 (by decide) (fun c_6 => ?_) (fun c_6 => ?_)
  · have c_6 : b = e0 := (n_eq (a := b) (b := e0) (by omega) (by omega)).mp c_6
    refine lv_iconst (v := (-1)) hx hb d_MO_number_52 (by decide) ?_
    exact f_iret C hr hI ⟨by unfold nmM; rw [show nm tx b e0 = none from if_pos (by omega)]; rfl, rfl⟩ hX (Nat.le_refl _) (Nat.le_refl _) d_MO_number_53
  · have c_6 : ¬ b = e0 := fun q => c_6 ((n_eq (a := b) (b := e0) (by omega) (by omega)).mpr q)
    refine lv_aload_n hx hb d_MO_number_11 rfl (lv_at hl 0 rfl) ?_
    refine f_get (C := "DutyRulesModel") (T := T_MO) (N := 40) hx hb (fun w q => hT w (s_MO w q)) hown hK hI g_x rfl 0 (by decide) (hT _ w_809) (fun _ q => q) (mo_get (by decide) v_0) d_MO_number_12 ?_
    refine lv_aload_n hx hb d_MO_number_15 rfl (lv_at hl 0 rfl) ?_
    refine f_get (C := "DutyRulesModel") (T := T_MO) (N := 40) hx hb (fun w q => hT w (s_MO w q)) hown hK hI g_x rfl 34 (by decide) (hT _ w_843) (fun _ q => q) (mo_get (by decide) v_34) d_MO_number_16 ?_
    refine f_ialdn (k := b) (v := (nI (tx b))) hx hb hI g_a0 (fT.ofK hK (t0 := 0) rfl) (by omega) (by omega) rfl d_MO_number_19 ?_
    refine lv_bipush (v := 48) hx hb d_MO_number_20 (by decide) ?_
    refine lv_icmp_ne (tgt := 38) hx hb d_MO_number_22 (by decide) (fun c_7 => ?_) (fun c_7 => ?_)
    · have c_7 : ¬ (tx b) = 48 := fun q => c_7 ((n_eq (a := (tx b)) (b := 48) (by have := btx b; omega) (by omega)).mpr q)
      refine lv_aload_n hx hb d_MO_number_38 rfl (lv_at hl 0 rfl) ?_
      refine f_get (C := "DutyRulesModel") (T := T_MO) (N := 40) hx hb (fun w q => hT w (s_MO w q)) hown hK hI g_x rfl 35 (by decide) (hT _ w_844) (fun _ q => q) (mo_get (by decide) v_35) d_MO_number_39 ?_
      refine lv_aload_n hx hb d_MO_number_42 rfl (lv_at hl 0 rfl) ?_
      refine f_get (C := "DutyRulesModel") (T := T_MO) (N := 40) hx hb (fun w q => hT w (s_MO w q)) hown hK hI g_x rfl 34 (by decide) (hT _ w_843) (fun _ q => q) (mo_get (by decide) v_34) d_MO_number_43 ?_
      refine lv_isub hx hb d_MO_number_46 ?_
      refine f_asi (pk_sub (a := e0) (b := b) (by omega)) ?_
      refine lv_bipush (v := 9) hx hb d_MO_number_47 (by decide) ?_
      refine lv_icmp_le (tgt := 54) hx hb d_MO_number_49 (by decide) (fun c_8 => ?_) (fun c_8 => ?_)
      · have c_8 : (e0 - b) ≤ 9 := (n_le (a := (e0 - b)) (b := 9) (by omega) (by omega)).mp c_8
        refine lv_iconst (v := 0) hx hb d_MO_number_54 (by decide) ?_
        refine lv_istore_n (lv' := [(2, .int 0), (0, .ref x), (1, .int (nI M))]) hx hb d_MO_number_55 rfl hl (by decide) rfl (fun ls hl => ?_)
        refine lv_aload_n hx hb d_MO_number_56 rfl (lv_at hl 1 rfl) ?_
        refine f_get (C := "DutyRulesModel") (T := T_MO) (N := 40) hx hb (fun w q => hT w (s_MO w q)) hown hK hI g_x rfl 34 (by decide) (hT _ w_843) (fun _ q => q) (mo_get (by decide) v_34) d_MO_number_57 ?_
        refine lv_istore_n (lv' := [(3, .int (nI b)), (2, .int 0), (0, .ref x), (1, .int (nI M))]) hx hb d_MO_number_60 rfl hl (by decide) rfl (fun ls hl => ?_)
        refine J61 (by omega) (e0 - b) b 0 0 (by omega) (if_neg (fun q => by rcases q with q | q | q <;> omega)) (by omega) (by decide) ls ?_
        exact lv_sub hl [2, 3, 1, 0] rfl
      · have c_8 : ¬ (e0 - b) ≤ 9 := fun q => c_8 ((n_le (a := (e0 - b)) (b := 9) (by omega) (by omega)).mpr q)
        refine lv_iconst (v := (-1)) hx hb d_MO_number_52 (by decide) ?_
        exact f_iret C hr hI ⟨by unfold nmM; rw [show nm tx b e0 = none from if_pos (by omega)]; rfl, rfl⟩ hX (Nat.le_refl _) (Nat.le_refl _) d_MO_number_53
    · have c_7 : (tx b) = 48 := (n_eq (a := (tx b)) (b := 48) (by have := btx b; omega) (by omega)).mp c_7
      refine lv_aload_n hx hb d_MO_number_25 rfl (lv_at hl 0 rfl) ?_
      refine f_get (C := "DutyRulesModel") (T := T_MO) (N := 40) hx hb (fun w q => hT w (s_MO w q)) hown hK hI g_x rfl 35 (by decide) (hT _ w_844) (fun _ q => q) (mo_get (by decide) v_35) d_MO_number_26 ?_
      refine lv_aload_n hx hb d_MO_number_29 rfl (lv_at hl 0 rfl) ?_
      refine f_get (C := "DutyRulesModel") (T := T_MO) (N := 40) hx hb (fun w q => hT w (s_MO w q)) hown hK hI g_x rfl 34 (by decide) (hT _ w_843) (fun _ q => q) (mo_get (by decide) v_34) d_MO_number_30 ?_
      refine lv_isub hx hb d_MO_number_33 ?_
      refine f_asi (pk_sub (a := e0) (b := b) (by omega)) ?_
      refine lv_iconst (v := 1) hx hb d_MO_number_34 (by decide) ?_
      refine lv_icmp_gt (tgt := 52) hx hb d_MO_number_35 (by decide) (fun c_9 => ?_) (fun c_9 => ?_)
      · have c_9 : 1 < (e0 - b) := (n_lt (a := 1) (b := (e0 - b)) (by omega) (by omega)).mp c_9
        refine lv_iconst (v := (-1)) hx hb d_MO_number_52 (by decide) ?_
        exact f_iret C hr hI ⟨by unfold nmM; rw [show nm tx b e0 = none from if_pos (by omega)]; rfl, rfl⟩ hX (Nat.le_refl _) (Nat.le_refl _) d_MO_number_53
      · have c_9 : ¬ 1 < (e0 - b) := fun q => c_9 ((n_lt (a := 1) (b := (e0 - b)) (by omega) (by omega)).mpr q)
        refine lv_aload_n hx hb d_MO_number_38 rfl (lv_at hl 0 rfl) ?_
        refine f_get (C := "DutyRulesModel") (T := T_MO) (N := 40) hx hb (fun w q => hT w (s_MO w q)) hown hK hI g_x rfl 35 (by decide) (hT _ w_844) (fun _ q => q) (mo_get (by decide) v_35) d_MO_number_39 ?_
        refine lv_aload_n hx hb d_MO_number_42 rfl (lv_at hl 0 rfl) ?_
        refine f_get (C := "DutyRulesModel") (T := T_MO) (N := 40) hx hb (fun w q => hT w (s_MO w q)) hown hK hI g_x rfl 34 (by decide) (hT _ w_843) (fun _ q => q) (mo_get (by decide) v_34) d_MO_number_43 ?_
        refine lv_isub hx hb d_MO_number_46 ?_
        refine f_asi (pk_sub (a := e0) (b := b) (by omega)) ?_
        refine lv_bipush (v := 9) hx hb d_MO_number_47 (by decide) ?_
        refine lv_icmp_le (tgt := 54) hx hb d_MO_number_49 (by decide) (fun c_10 => ?_) (fun c_10 => ?_)
        · have c_10 : (e0 - b) ≤ 9 := (n_le (a := (e0 - b)) (b := 9) (by omega) (by omega)).mp c_10
          refine lv_iconst (v := 0) hx hb d_MO_number_54 (by decide) ?_
          refine lv_istore_n (lv' := [(2, .int 0), (0, .ref x), (1, .int (nI M))]) hx hb d_MO_number_55 rfl hl (by decide) rfl (fun ls hl => ?_)
          refine lv_aload_n hx hb d_MO_number_56 rfl (lv_at hl 1 rfl) ?_
          refine f_get (C := "DutyRulesModel") (T := T_MO) (N := 40) hx hb (fun w q => hT w (s_MO w q)) hown hK hI g_x rfl 34 (by decide) (hT _ w_843) (fun _ q => q) (mo_get (by decide) v_34) d_MO_number_57 ?_
          refine lv_istore_n (lv' := [(3, .int (nI b)), (2, .int 0), (0, .ref x), (1, .int (nI M))]) hx hb d_MO_number_60 rfl hl (by decide) rfl (fun ls hl => ?_)
          refine J61 (by omega) (e0 - b) b 0 0 (by omega) (if_neg (fun q => by rcases q with q | q | q <;> omega)) (by omega) (by decide) ls ?_
          exact lv_sub hl [2, 3, 1, 0] rfl
        · have c_10 : ¬ (e0 - b) ≤ 9 := fun q => c_10 ((n_le (a := (e0 - b)) (b := 9) (by omega) (by omega)).mpr q)
          refine lv_iconst (v := (-1)) hx hb d_MO_number_52 (by decide) ?_
          exact f_iret C hr hI ⟨by unfold nmM; rw [show nm tx b e0 = none from if_pos (by omega)]; rfl, rfl⟩ hX (Nat.le_refl _) (Nat.le_refl _) d_MO_number_53
