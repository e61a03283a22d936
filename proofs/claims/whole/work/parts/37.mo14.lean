theorem i_nle {x : Int32} (h : x < 0) : ¬ 0 ≤ x := by rw [Int32.lt_iff_toInt_lt] at h; rw [Int32.le_iff_toInt_le]; omega
theorem gm_MO_rule : gM y_MO_rule b_MO_rule 10 (some .boolean) 1 := ⟨w_948, w_10, ⟨by decide, by decide⟩, by decide +kernel⟩
set_option maxHeartbeats 4000000 in
set_option maxRecDepth 100000 in
/-- MO_rule  -/
theorem c_MO_rule (l : Launch) (G : gG) (h : fH) (sz : Nat) (x b e0 w0 : Nat) (L : List rlT) (rg : Nat → Nat) (mf : Nat → Value) (g_x : h x = some (40, 0, .inr (8, mo mf))) (tn : Nat) (tx : Nat → Nat) (hTx : mTx G h mf tn tx) (hRd : mRd G h mf rg) (hS : sT G h 0 0 7 (G.2.2.2 7) aL 63) (v_34 : mf 34 = .int (nI b)) (v_35 : mf 35 = .int (nI e0)) (v_36 : mf 36 = .int (nI w0)) (bb : b ≤ e0) (be : e0 ≤ tn) (hrep : rep5 rg L) (bL : L.length ≤ 40) : cM l y_MO_rule b_MO_rule 10 (some .boolean) { frames := 7, cells := 0, slots := 0, locals := 152 } G [.ref x, .int (nI L.length)] h sz (cQi G h sz (fun r h' => ∃ (ok : Bool) (b2 e2 w2 : Nat) (rl : rlT) (rg2 : Nat → Nat) (mf' : Nat → Value), rule1 tx tn L b e0 w0 = (ok, b2, e2, w2, rl) ∧ r = (if ok = true then 1 else 0) ∧ h' x = some (40, 0, .inr (8, mo mf')) ∧ (∀ j, j < 34 ∨ 36 < j → mf' j = mf j) ∧ mf' 34 = .int (nI b2) ∧ mf' 35 = .int (nI e2) ∧ mf' 36 = .int (nI w2) ∧ b2 ≤ e2 ∧ e2 ≤ tn ∧ mRd G h' mf' rg2 ∧ (ok = true → rep5 rg2 (L ++ [rl])) ∧ fF (inR [40, 43]) h h')) := by
  refine f_start (by decide) (Nat.le_of_ble_eq_true rfl) ?_
  intro p e s m below meth c ls C hr hsz hI hl
  obtain ⟨hx, hb, hml, hown, hnm, hlk, hT, hG, hZ⟩ := id C
  have hK := hG.1
  have hX : fX h sz h := fX.rf
  have hl : lv_has ls 10 [(0, .ref x), (1, .int (nI L.length))] := hl
  obtain ⟨a0, ⟨v_0, v_1⟩, g_a0, btn, btx⟩ := hTx
  obtain ⟨a2, v_2, g_a2, brg⟩ := hRd
  have hF : fF (inR [40, 43]) h h := fF.rf
  have hm1 : ∀ j, j < 34 ∨ 36 < j → mf j = mf j := fun _ _ => rfl
  have hz0 := hI.2.2.2.1
  have hbw := wb_le (tx := tx) be
  have hew := we_le (tx := tx) hbw.2
  have J105 : ∀ K : Nat, kd tx b e0 = K → K < 6 → ¬ r1no K L → ∀ (d k : Nat), k + (d + 1) = plL K → ∀ (vs : List Nat) (b1 e1 w1 : Nat) (rg1 : Nat → Nat), vs.length = vl K k → rp tx tn K (pl K) (wb tx tn e0) (we tx tn (wb tx tn e0)) (w0 + 1) [] = rp tx tn K ((pl K).drop k) b1 e1 w1 vs → b1 ≤ e1 → e1 ≤ tn → (∀ i, rg1 i ≤ 100000000) → rep5 rg1 L → rg1 (5 * L.length) = K → (∀ i, i < vs.length → rg1 (5 * L.length + (i + 1)) = vs.getD i 0) → ∀ (h1 : fH) (mf1 : Nat → Value) (H : Heap) (locs : List Loc), h1 x = some (40, 0, .inr (8, mo mf1)) → h1 a0 = some (41, 0, .inl ((G.2.1 0), 2000, .inl (fun i => nI (tx i)))) → h1 a2 = some (43, 0, .inl ((G.2.1 0), 200, .inl (fun i => nI (rg1 i)))) → mf1 0 = .ref a0 → mf1 1 = .int (nI tn) → mf1 2 = .ref a2 → mf1 34 = .int (nI b1) → mf1 35 = .int (nI e1) → mf1 36 = .int (nI w1) → (∀ j, j < 34 ∨ 36 < j → mf1 j = mf j) → fF (inR [40, 43]) h h1 → fX h sz h1 → fI G.1 g_cl (fA h sz) s.heap h1 H locs → ∀ ls : Array Slot, lv_has ls 10 [(0, .ref x), (1, .int (nI L.length)), (2, .int (nI K)), (4, .int (nI vs.length)), (5, .int (nI k)), (6, .int 0)] → W p l e { frames := 7, cells := 0, slots := 0, locals := 152 } s m ([.ref x, .int (nI L.length)] : List Value).toArray below meth c H locs 0 0 (MQ below (cQi G h sz (fun r h' => ∃ (ok : Bool) (b2 e2 w2 : Nat) (rl : rlT) (rg2 : Nat → Nat) (mf' : Nat → Value), rule1 tx tn L b e0 w0 = (ok, b2, e2, w2, rl) ∧ r = (if ok = true then 1 else 0) ∧ h' x = some (40, 0, .inr (8, mo mf')) ∧ (∀ j, j < 34 ∨ 36 < j → mf' j = mf j) ∧ mf' 34 = .int (nI b2) ∧ mf' 35 = .int (nI e2) ∧ mf' 36 = .int (nI w2) ∧ b2 ≤ e2 ∧ e2 ≤ tn ∧ mRd G h' mf' rg2 ∧ (ok = true → rep5 rg2 (L ++ [rl])) ∧ fF (inR [40, 43]) h h')) ([.ref x, .int (nI L.length)] : List Value).toArray s 0 0 (fA h sz)) (F0 m 105 ls []) := by
    intro K hKd hK6 hno d
    have h40 : L.length < 40 := Nat.lt_of_le_of_ne bL (fun q => hno (Or.inr (Or.inl q)))
    have hpo := plg_ok K hK6
    induction d with
    | zero =>
      intro k hkd vs b1 e1 w1 rg1 hvl hRP bb1 be1 brg1 hrep1 hkK hvs h1 mf1 H locs g_x g_a0 g_a2 v_0 v_1 v_2 v_34 v_35 v_36 hm1 hF hX hI ls hl
      have hz7 := hI.2.2.2.1
      have hS1 := hS.keepX hX
      have hk8 : k < plL K := by omega
      have hdr := pl_drop hk8
      rcases hp : plg K k with M | wd
      · exact absurd (plg_l hK6 hk8 hp).2.2.2 (by omega)
      · have hpr := plg_r hK6 hk8 hp
        have hw13 := hpr.1
        have hwd : wd = 12 := hpr.2.2.mpr (by omega)
        have hbw1 := wb_le (tx := tx) be1
        have hew1 := we_le (tx := tx) hbw1.2
        refine lv_iload hx hb d_MO_rule_105 (lv_at hl 5 rfl) ?_
        refine lv_if_ne (tgt := 243) hx hb d_MO_rule_107 (by decide) (fun c_1 => absurd (by decide) c_1) (fun c_1 => ?_)
        refine lv_iload_n hx hb d_MO_rule_110 rfl (lv_at hl 2 rfl) ?_
        refine lv_iload hx hb d_MO_rule_111 (lv_at hl 4 rfl) ?_
        refine f_calli hI (f_runS C hI (c_MO_part l G h1 _ (nI K) (nI k)) gm_MO_part w_962 w_961 rfl hl.1 rfl (Nat.le_of_ble_eq_true rfl) ⟨Nat.le_of_ble_eq_true rfl, Nat.le_of_ble_eq_true rfl⟩ d_MO_rule_113 ⟨Nat.le_of_ble_eq_true rfl, Nat.le_of_ble_eq_true rfl⟩) (fun r_2 h8 H9 locs hp9 hX9 hz9 hI => ?_)
        obtain ⟨rfl, e9⟩ := hp9
        rw [e9] at hI
        clear hX9 e9
        refine f_asi ((part_n K hK6 k (by omega) hk8).trans (show pv (plg K k) = pv (.inr wd) by rw [hp])) ?_
        refine lv_istore (lv' := [(7, .int (pv (.inr wd))), (0, .ref x), (1, .int (nI L.length)), (2, .int (nI K)), (4, .int (nI vs.length)), (5, .int (nI k)), (6, .int 0)]) hx hb d_MO_rule_116 hl (by decide) rfl (fun ls hl => ?_)
        refine lv_iload hx hb d_MO_rule_118 (lv_at hl 0 rfl) ?_
        refine lv_if_ge (tgt := 154) hx hb d_MO_rule_120 (by decide) (fun c_3 => absurd c_3 (i_nle (pv_w wd hw13).2)) (fun c_3 => ?_)
        refine lv_aload_n hx hb d_MO_rule_123 rfl (lv_at hl 1 rfl) ?_
        refine lv_bipush (v := (-100)) hx hb d_MO_rule_124 (by decide) ?_
        refine lv_iload hx hb d_MO_rule_126 (lv_at hl 0 rfl) ?_
        refine lv_isub hx hb d_MO_rule_128 ?_
        refine f_asi (pv_w wd hw13).1 ?_
        refine f_calli hI (f_runV C hI (c_MO_is l G h1 _ x b1 e1 wd mf1 g_x tn tx ⟨a0, ⟨v_0, v_1⟩, g_a0, btn, btx⟩ hS1 v_34 v_35 bb1 be1 hw13) gm_MO_is w_951 p_MO_is w_949 g_x rfl rfl rfl hl.1 rfl (Nat.le_of_ble_eq_true rfl) ⟨Nat.le_of_ble_eq_true rfl, Nat.le_of_ble_eq_true rfl⟩ d_MO_rule_129 ⟨Nat.le_of_ble_eq_true rfl, Nat.le_of_ble_eq_true rfl⟩) (fun r_4 h9 H9 locs hp9 hX9 hz9 hI => ?_)
        obtain ⟨hq9, e9⟩ := hp9
        rw [e9] at hI
        clear hX9 e9
        rcases hq9 with ⟨rfl, hW⟩ | ⟨rfl, hW⟩
        · skip
          refine lv_if_ne (tgt := 137) hx hb d_MO_rule_132 (by decide) (fun c_5 => ?_) (fun c_5 => absurd c_5 (by decide))
          have hRP2 : rp tx tn K (pl K) (wb tx tn e0) (we tx tn (wb tx tn e0)) (w0 + 1) [] = (true, wb tx tn e1, we tx tn (wb tx tn e1), w1 + 1, vs) := by rw [hRP, hdr, hp, rp_w hW, List.drop_eq_nil_of_le (by show (pl K).length ≤ k + 1; have : plL K = (pl K).length := rfl; omega)]; rfl
          refine lv_iload hx hb d_MO_rule_137 (lv_at hl 0 rfl) ?_
          refine lv_bipush (v := (-112)) hx hb d_MO_rule_139 (by decide) ?_
          refine lv_icmp_ne (tgt := 148) hx hb d_MO_rule_141 (by decide) (fun c_6 => absurd ((pv_12 wd hw13).mpr hwd) c_6) (fun c_6 => ?_)
          refine lv_iconst (v := 1) hx hb d_MO_rule_144 (by decide) ?_
          refine lv_goto (tgt := 149) hx hb d_MO_rule_145 (by decide) ?_
          refine lv_istore (lv' := [(6, .int 1), (7, .int (pv (.inr wd))), (0, .ref x), (1, .int (nI L.length)), (2, .int (nI K)), (4, .int (nI vs.length)), (5, .int (nI k))]) hx hb d_MO_rule_149 hl (by decide) rfl (fun ls hl => ?_)
          refine lv_goto (tgt := 233) hx hb d_MO_rule_151 (by decide) ?_
          refine lv_iinc (v := nI (k + 1)) (lv' := [(5, .int (nI (k + 1))), (6, .int 1), (7, .int (pv (.inr wd))), (0, .ref x), (1, .int (nI L.length)), (2, .int (nI K)), (4, .int (nI vs.length))]) hx hb d_MO_rule_233 hl (k := 6) rfl (f_inc1 _) (by decide) rfl (fun ls hl => ?_)
          refine lv_aload_n hx hb d_MO_rule_236 rfl (lv_at hl 3 rfl) ?_
          have hzA := hI.2.2.2.1
          refine f_callv hI (f_runV C hI (c_MO_next l G h1 _ x e1 (nI w1) mf1 g_x tn tx ⟨a0, ⟨v_0, v_1⟩, g_a0, btn, btx⟩ v_35 v_36 be1) gm_MO_next w_940 p_MO_next w_938 g_x rfl rfl rfl hl.1 rfl (Nat.le_of_ble_eq_true rfl) ⟨Nat.le_of_ble_eq_true rfl, Nat.le_of_ble_eq_true rfl⟩ d_MO_rule_237 ⟨Nat.le_of_ble_eq_true rfl, Nat.le_of_ble_eq_true rfl⟩) (fun h9 H9 locs hp9 hX9 hz9 hI => ?_)
          obtain ⟨mf_8, g_x, hm9, v_34, v_35, v_36, hF9⟩ := hp9
          have hm1 : ∀ j, j < 34 ∨ 36 < j → mf_8 j = mf j := fun j hj => (hm9 j hj).trans (hm1 j hj)
          rw [nI_1] at v_36
          have g_a0 := hF9 _ _ _ _ g_a0 (by show ¬ _ ∈ _; decide)
          have g_a2 := hF9 _ _ _ _ g_a2 (by show ¬ _ ∈ _; decide)
          have v_0 := (hm9 0 (by decide)).trans v_0
          have v_1 := (hm9 1 (by decide)).trans v_1
          have v_2 := (hm9 2 (by decide)).trans v_2
          have hF := hF.tr (hF9.mono (fun r _ q => (by simp at q ⊢; omega : r ∈ [40, 43])))
          have hX := fX.tr (Nat.le_trans (Nat.le_of_eq hsz.symm) hzA) hX hX9
          refine lv_goto (tgt := 105) hx hb d_MO_rule_240 (by decide) ?_
          refine lv_iload hx hb d_MO_rule_105 (lv_at hl 1 rfl) ?_
          refine lv_if_ne (tgt := 243) hx hb d_MO_rule_107 (by decide) (fun c_9 => ?_) (fun c_9 => absurd c_9 (by decide))
          refine lv_iconst (v := 1) hx hb d_MO_rule_243 (by decide) ?_
          exact f_zret C hr rfl hI ⟨true, wb tx tn e1, we tx tn (wb tx tn e1), w1 + 1, (K, vs), rg1, mf_8, rule1_go hKd hno hRP2, rfl, g_x, hm1, v_34, v_35, v_36, hew1.1, hew1.2, ⟨a2, v_2, g_a2, brg1⟩, (fun _ => rep5_add hrep1 hkK hvs (rp_wf hK6 hRP2)), hF⟩ hX (Nat.le_refl _) (Nat.le_refl _) d_MO_rule_244
        · skip
          refine lv_if_ne (tgt := 137) hx hb d_MO_rule_132 (by decide) (fun c_10 => absurd (by decide) c_10) (fun c_10 => ?_)
          refine lv_iconst (v := 0) hx hb d_MO_rule_135 (by decide) ?_
          exact f_zret C hr rfl hI ⟨false, b1, e1, w1, (K, vs), rg1, mf1, rule1_go (q := (false, b1, e1, w1, vs)) hKd hno (hRP.trans (by rw [hdr, hp]; exact rp_wn hW)), rfl, g_x, hm1, v_34, v_35, v_36, bb1, be1, ⟨a2, v_2, g_a2, brg1⟩, (fun q => by cases q), hF⟩ hX (Nat.le_refl _) (Nat.le_refl _) d_MO_rule_136
    | succ d ih =>
      intro k hkd vs b1 e1 w1 rg1 hvl hRP bb1 be1 brg1 hrep1 hkK hvs h1 mf1 H locs g_x g_a0 g_a2 v_0 v_1 v_2 v_34 v_35 v_36 hm1 hF hX hI ls hl
      have ih : ∀ k : Nat, k + (d + 1) = plL K → ∀ (vs : List Nat) (b1 e1 w1 : Nat) (rg1 : Nat → Nat), vs.length = vl K k → rp tx tn K (pl K) (wb tx tn e0) (we tx tn (wb tx tn e0)) (w0 + 1) [] = rp tx tn K ((pl K).drop k) b1 e1 w1 vs → b1 ≤ e1 → e1 ≤ tn → (∀ i, rg1 i ≤ 100000000) → rep5 rg1 L → rg1 (5 * L.length) = K → (∀ i, i < vs.length → rg1 (5 * L.length + (i + 1)) = vs.getD i 0) → ∀ (h1 : fH) (mf1 : Nat → Value) (H : Heap) (locs : List Loc), h1 x = some (40, 0, .inr (8, mo mf1)) → h1 a0 = some (41, 0, .inl ((G.2.1 0), 2000, .inl (fun i => nI (tx i)))) → h1 a2 = some (43, 0, .inl ((G.2.1 0), 200, .inl (fun i => nI (rg1 i)))) → mf1 0 = .ref a0 → mf1 1 = .int (nI tn) → mf1 2 = .ref a2 → mf1 34 = .int (nI b1) → mf1 35 = .int (nI e1) → mf1 36 = .int (nI w1) → (∀ j, j < 34 ∨ 36 < j → mf1 j = mf j) → fF (inR [40, 43]) h h1 → fX h sz h1 → fI G.1 g_cl (fA h sz) s.heap h1 H locs → ∀ ls : Array Slot, lv_has ls 10 [(0, .ref x), (1, .int (nI L.length)), (2, .int (nI K)), (4, .int (nI vs.length)), (5, .int (nI k)), (6, .int 0)] → W p l e { frames := 7, cells := 0, slots := 0, locals := 152 } s m ([.ref x, .int (nI L.length)] : List Value).toArray below meth c H locs 0 0 (MQ below (cQi G h sz (fun r h' => ∃ (ok : Bool) (b2 e2 w2 : Nat) (rl : rlT) (rg2 : Nat → Nat) (mf' : Nat → Value), rule1 tx tn L b e0 w0 = (ok, b2, e2, w2, rl) ∧ r = (if ok = true then 1 else 0) ∧ h' x = some (40, 0, .inr (8, mo mf')) ∧ (∀ j, j < 34 ∨ 36 < j → mf' j = mf j) ∧ mf' 34 = .int (nI b2) ∧ mf' 35 = .int (nI e2) ∧ mf' 36 = .int (nI w2) ∧ b2 ≤ e2 ∧ e2 ≤ tn ∧ mRd G h' mf' rg2 ∧ (ok = true → rep5 rg2 (L ++ [rl])) ∧ fF (inR [40, 43]) h h')) ([.ref x, .int (nI L.length)] : List Value).toArray s 0 0 (fA h sz)) (F0 m 105 ls []) := ih
      have hz7 := hI.2.2.2.1
      have hS1 := hS.keepX hX
      have hk8 : k < plL K := by omega
      have hdr := pl_drop hk8
      have hbw1 := wb_le (tx := tx) be1
      have hew1 := we_le (tx := tx) hbw1.2
      rcases hp : plg K k with M | wd
      · have hpl := plg_l hK6 hk8 hp
        refine lv_iload hx hb d_MO_rule_105 (lv_at hl 5 rfl) ?_
        refine lv_if_ne (tgt := 243) hx hb d_MO_rule_107 (by decide) (fun c_11 => absurd (by decide) c_11) (fun c_11 => ?_)
        refine lv_iload_n hx hb d_MO_rule_110 rfl (lv_at hl 2 rfl) ?_
        refine lv_iload hx hb d_MO_rule_111 (lv_at hl 4 rfl) ?_
        refine f_calli hI (f_runS C hI (c_MO_part l G h1 _ (nI K) (nI k)) gm_MO_part w_962 w_961 rfl hl.1 rfl (Nat.le_of_ble_eq_true rfl) ⟨Nat.le_of_ble_eq_true rfl, Nat.le_of_ble_eq_true rfl⟩ d_MO_rule_113 ⟨Nat.le_of_ble_eq_true rfl, Nat.le_of_ble_eq_true rfl⟩) (fun r_12 h8 H9 locs hp9 hX9 hz9 hI => ?_)
        obtain ⟨rfl, e9⟩ := hp9
        rw [e9] at hI
        clear hX9 e9
        refine f_asi ((part_n K hK6 k (by omega) hk8).trans (show pv (plg K k) = nI M by rw [hp]; rfl)) ?_
        refine lv_istore (lv' := [(7, .int (nI M)), (0, .ref x), (1, .int (nI L.length)), (2, .int (nI K)), (4, .int (nI vs.length)), (5, .int (nI k)), (6, .int 0)]) hx hb d_MO_rule_116 hl (by decide) rfl (fun ls hl => ?_)
        refine lv_iload hx hb d_MO_rule_118 (lv_at hl 0 rfl) ?_
        refine lv_if_ge (tgt := 154) hx hb d_MO_rule_120 (by decide) (fun c_13 => ?_) (fun c_13 => absurd (nI_pos' (by omega)) c_13)
        refine lv_aload_n hx hb d_MO_rule_154 rfl (lv_at hl 1 rfl) ?_
        refine lv_iload hx hb d_MO_rule_155 (lv_at hl 0 rfl) ?_
        refine f_calli hI (f_runV C hI (c_MO_number l G h1 _ x b1 e1 M mf1 g_x tn tx ⟨a0, ⟨v_0, v_1⟩, g_a0, btn, btx⟩ v_34 v_35 bb1 be1 (by omega)) gm_MO_number w_968 p_MO_number w_966 g_x rfl rfl rfl hl.1 rfl (Nat.le_of_ble_eq_true rfl) ⟨Nat.le_of_ble_eq_true rfl, Nat.le_of_ble_eq_true rfl⟩ d_MO_rule_157 ⟨Nat.le_of_ble_eq_true rfl, Nat.le_of_ble_eq_true rfl⟩) (fun r_14 h8 H9 locs hp9 hX9 hz9 hI => ?_)
        obtain ⟨rfl, e9⟩ := hp9
        rw [e9] at hI
        clear hX9 e9
        rcases hv : nmM tx b1 e1 M with _ | v
        · refine f_asi (show oN none = -1 from rfl) ?_
          refine lv_istore (lv' := [(8, .int (-1)), (7, .int (nI M)), (0, .ref x), (1, .int (nI L.length)), (2, .int (nI K)), (4, .int (nI vs.length)), (5, .int (nI k)), (6, .int 0)]) hx hb d_MO_rule_160 hl (by decide) rfl (fun ls hl => ?_)
          refine lv_iload hx hb d_MO_rule_162 (lv_at hl 0 rfl) ?_
          refine lv_iconst (v := (-1)) hx hb d_MO_rule_164 (by decide) ?_
          refine lv_icmp_eq (tgt := 203) hx hb d_MO_rule_165 (by decide) (fun c_15 => ?_) (fun c_15 => absurd (by decide) c_15)
          refine lv_iconst (v := 1) hx hb d_MO_rule_203 (by decide) ?_
          refine lv_goto (tgt := 208) hx hb d_MO_rule_204 (by decide) ?_
          refine lv_istore (lv' := [(9, .int 1), (8, .int (-1)), (7, .int (nI M)), (0, .ref x), (1, .int (nI L.length)), (2, .int (nI K)), (4, .int (nI vs.length)), (5, .int (nI k)), (6, .int 0)]) hx hb d_MO_rule_208 hl (by decide) rfl (fun ls hl => ?_)
          refine lv_iload hx hb d_MO_rule_210 (lv_at hl 0 rfl) ?_
          refine lv_if_eq (tgt := 217) hx hb d_MO_rule_212 (by decide) (fun c_16 => absurd c_16 (by decide)) (fun c_16 => ?_)
          refine lv_iconst (v := 0) hx hb d_MO_rule_215 (by decide) ?_
          exact f_zret C hr rfl hI ⟨false, b1, e1, w1, (K, vs), rg1, mf1, rule1_go (q := (false, b1, e1, w1, vs)) hKd hno (hRP.trans (by rw [hdr, hp]; exact rp_n hv)), rfl, g_x, hm1, v_34, v_35, v_36, bb1, be1, ⟨a2, v_2, g_a2, brg1⟩, (fun q => by cases q), hF⟩ hX (Nat.le_refl _) (Nat.le_refl _) d_MO_rule_216
        · refine f_asi (show oN (some v) = nI v from rfl) ?_
          have hvM := nmM_le hv
          refine lv_istore (lv' := [(8, .int (nI v)), (7, .int (nI M)), (0, .ref x), (1, .int (nI L.length)), (2, .int (nI K)), (4, .int (nI vs.length)), (5, .int (nI k)), (6, .int 0)]) hx hb d_MO_rule_160 hl (by decide) rfl (fun ls hl => ?_)
          refine lv_iload hx hb d_MO_rule_162 (lv_at hl 0 rfl) ?_
          refine lv_iconst (v := (-1)) hx hb d_MO_rule_164 (by decide) ?_
          refine lv_icmp_eq (tgt := 203) hx hb d_MO_rule_165 (by decide) (fun c_17 => absurd c_17 (n_m1 (by omega))) (fun c_17 => ?_)
          refine lv_iload_n hx hb d_MO_rule_168 rfl (lv_at hl 4 rfl) ?_
          refine lv_iconst (v := 4) hx hb d_MO_rule_169 (by decide) ?_
          refine lv_icmp_ne (tgt := 178) hx hb d_MO_rule_170 (by decide) (fun c_18 => ?_) (fun c_18 => ?_)
          · have c_18 : ¬ K = 4 := fun q => c_18 ((n_eq (a := K) (b := 4) (by omega) (by omega)).mpr q)
            refine lv_iload_n hx hb d_MO_rule_178 rfl (lv_at hl 4 rfl) ?_
            refine lv_if_ne (tgt := 207) hx hb d_MO_rule_179 (by decide) (fun c_19 => ?_) (fun c_19 => ?_)
            · have c_19 : ¬ K = 0 := fun q => c_19 ((n_eq (a := K) (b := 0) (by omega) (by omega)).mpr q)
              refine lv_iconst (v := 0) hx hb d_MO_rule_207 (by decide) ?_
              refine lv_istore (lv' := [(9, .int 0), (8, .int (nI v)), (7, .int (nI M)), (0, .ref x), (1, .int (nI L.length)), (2, .int (nI K)), (4, .int (nI vs.length)), (5, .int (nI k)), (6, .int 0)]) hx hb d_MO_rule_208 hl (by decide) rfl (fun ls hl => ?_)
              refine lv_iload hx hb d_MO_rule_210 (lv_at hl 0 rfl) ?_
              refine lv_if_eq (tgt := 217) hx hb d_MO_rule_212 (by decide) (fun c_20 => ?_) (fun c_20 => absurd (by decide) c_20)
              refine lv_iinc (v := nI (vs.length + 1)) (lv' := [(4, .int (nI (vs.length + 1))), (9, .int 0), (8, .int (nI v)), (7, .int (nI M)), (0, .ref x), (1, .int (nI L.length)), (2, .int (nI K)), (5, .int (nI k)), (6, .int 0)]) hx hb d_MO_rule_217 hl (k := 6) rfl (f_inc1 _) (by decide) rfl (fun ls hl => ?_)
              refine lv_aload_n hx hb d_MO_rule_220 rfl (lv_at hl 4 rfl) ?_
              refine f_get (C := "DutyRulesModel") (T := T_MO) (N := 40) hx hb (fun w q => hT w (s_MO w q)) hown hK hI g_x rfl 2 (by decide) (hT _ w_811) (fun _ q => q) (mo_get (by decide) v_2) d_MO_rule_221 ?_
              refine lv_iconst (v := 5) hx hb d_MO_rule_224 (by decide) ?_
              refine lv_iload_n hx hb d_MO_rule_225 rfl (lv_at hl 5 rfl) ?_
              refine lv_imul hx hb d_MO_rule_226 ?_
              refine f_asi (pk_mul 5 L.length) ?_
              refine lv_iload hx hb d_MO_rule_227 (lv_at hl 0 rfl) ?_
              refine lv_iadd hx hb d_MO_rule_229 ?_
              refine f_asi (nI_add (5 * L.length) (vs.length + 1)) ?_
              refine lv_iload hx hb d_MO_rule_230 (lv_at hl 2 rfl) ?_
              refine f_iastn (k := ((5 * L.length) + (vs.length + 1))) (f' := (fun i => nI (va_up rg1 ((5 * L.length) + (vs.length + 1)) v i))) hx hb hI g_a2 (by decide) (fT.ofK hK (t0 := 0) rfl) (by omega) (by omega) (up_i rg1 ((5 * L.length) + (vs.length + 1)) v) d_MO_rule_232 (fun H locs hI => ?_)
              generalize eh_21 : fU h1 a2 (43, 0, .inl ((G.2.1 0), 200, .inl (fun i => nI (va_up rg1 ((5 * L.length) + (vs.length + 1)) v i)))) = h_21 at hI
              have hX := hX.set (e := .inl ((G.2.1 0), 200, .inl (fun i => nI (va_up rg1 ((5 * L.length) + (vs.length + 1)) v i)))) g_a2 (by decide); rw [eh_21] at hX
              have hF := hF.set (e := .inl ((G.2.1 0), 200, .inl (fun i => nI (va_up rg1 ((5 * L.length) + (vs.length + 1)) v i)))) g_a2 (by decide); rw [eh_21] at hF
              have g_a0 : h_21 a0 = some (41, 0, .inl ((G.2.1 0), 2000, .inl (fun i => nI (tx i)))) := (congrFun eh_21 a0).symm.trans (fU_keep g_a0 (f_neR g_a0 g_a2 (by decide)))
              have g_x : h_21 x = some (40, 0, .inr (8, mo mf1)) := (congrFun eh_21 x).symm.trans (fU_keep g_x (f_neR g_x g_a2 (by decide)))
              have g_a2 : h_21 a2 = some (43, 0, .inl ((G.2.1 0), 200, .inl (fun i => nI (va_up rg1 ((5 * L.length) + (vs.length + 1)) v i)))) := (congrFun eh_21 a2).symm.trans (fU_self _ _ _)
              refine lv_iinc (v := nI (k + 1)) (lv' := [(5, .int (nI (k + 1))), (4, .int (nI (vs.length + 1))), (9, .int 0), (8, .int (nI v)), (7, .int (nI M)), (0, .ref x), (1, .int (nI L.length)), (2, .int (nI K)), (6, .int 0)]) hx hb d_MO_rule_233 hl (k := 7) rfl (f_inc1 _) (by decide) rfl (fun ls hl => ?_)
              refine lv_aload_n hx hb d_MO_rule_236 rfl (lv_at hl 5 rfl) ?_
              have hzA := hI.2.2.2.1
              refine f_callv hI (f_runV C hI (c_MO_next l G h_21 _ x e1 (nI w1) mf1 g_x tn tx ⟨a0, ⟨v_0, v_1⟩, g_a0, btn, btx⟩ v_35 v_36 be1) gm_MO_next w_940 p_MO_next w_938 g_x rfl rfl rfl hl.1 rfl (Nat.le_of_ble_eq_true rfl) ⟨Nat.le_of_ble_eq_true rfl, Nat.le_of_ble_eq_true rfl⟩ d_MO_rule_237 ⟨Nat.le_of_ble_eq_true rfl, Nat.le_of_ble_eq_true rfl⟩) (fun h9 H9 locs hp9 hX9 hz9 hI => ?_)
              obtain ⟨mf_23, g_x, hm9, v_34, v_35, v_36, hF9⟩ := hp9
              have hm1 : ∀ j, j < 34 ∨ 36 < j → mf_23 j = mf j := fun j hj => (hm9 j hj).trans (hm1 j hj)
              rw [nI_1] at v_36
              have g_a0 := hF9 _ _ _ _ g_a0 (by show ¬ _ ∈ _; decide)
              have g_a2 := hF9 _ _ _ _ g_a2 (by show ¬ _ ∈ _; decide)
              have v_0 := (hm9 0 (by decide)).trans v_0
              have v_1 := (hm9 1 (by decide)).trans v_1
              have v_2 := (hm9 2 (by decide)).trans v_2
              have hF := hF.tr (hF9.mono (fun r _ q => (by simp at q ⊢; omega : r ∈ [40, 43])))
              have hX := fX.tr (Nat.le_trans (Nat.le_of_eq hsz.symm) hzA) hX hX9
              refine lv_goto (tgt := 105) hx hb d_MO_rule_240 (by decide) ?_
              have hnb : ¬ rbad K vs v := by
                rintro (⟨q1, q2⟩ | ⟨q1, q2, q3⟩)
                · omega
                · have h2 : rg1 (5 * L.length + 2) = vs.getD 1 0 := hvs 1 (by omega)
                  omega
              have hlen : (vs ++ [v]).length = vs.length + 1 := by simp
              refine ih (k + 1) (by omega) (vs ++ [v]) _ _ _ (va_up rg1 (5 * L.length + (vs.length + 1)) v) (by rw [hlen]; omega) (hRP.trans (by rw [hdr, hp]; exact rp_v hv hnb)) hew1.1 hew1.2 (up_le brg1 (by have := nmM_le hv; omega)) (rep5_up hrep1 (by omega)) ((va_up_ne _ _ (by omega)).trans hkK) (fun i hi => ?_) _ mf_23 _ _ g_x g_a0 g_a2 v_0 v_1 v_2 v_34 v_35 v_36 hm1 hF hX hI ls ?_
              · rw [hlen] at hi
                by_cases hi2 : i = vs.length
                · subst hi2; rw [va_up_self, List.getD_eq_getElem?_getD, List.getElem?_append_right (Nat.le_refl _), Nat.sub_self]; rfl
                · rw [va_up_ne _ _ (by omega), hvs i (by omega), List.getD_eq_getElem?_getD, List.getD_eq_getElem?_getD, List.getElem?_append_left (by omega)]
              rw [hlen]
              exact lv_sub hl [5, 6, 7, 1, 0, 8] rfl
            · have c_19 : K = 0 := (n_eq (a := K) (b := 0) (by omega) (by omega)).mp c_19
              refine lv_iload hx hb d_MO_rule_182 (lv_at hl 5 rfl) ?_
              refine lv_iconst (v := 2) hx hb d_MO_rule_184 (by decide) ?_
              refine lv_icmp_ne (tgt := 207) hx hb d_MO_rule_185 (by decide) (fun c_24 => ?_) (fun c_24 => ?_)
              · have c_24 : ¬ vs.length = 2 := fun q => c_24 ((n_eq (a := vs.length) (b := 2) (by omega) (by omega)).mpr q)
                refine lv_iconst (v := 0) hx hb d_MO_rule_207 (by decide) ?_
                refine lv_istore (lv' := [(9, .int 0), (8, .int (nI v)), (7, .int (nI M)), (0, .ref x), (1, .int (nI L.length)), (2, .int (nI K)), (4, .int (nI vs.length)), (5, .int (nI k)), (6, .int 0)]) hx hb d_MO_rule_208 hl (by decide) rfl (fun ls hl => ?_)
                refine lv_iload hx hb d_MO_rule_210 (lv_at hl 0 rfl) ?_
                refine lv_if_eq (tgt := 217) hx hb d_MO_rule_212 (by decide) (fun c_25 => ?_) (fun c_25 => absurd (by decide) c_25)
                refine lv_iinc (v := nI (vs.length + 1)) (lv' := [(4, .int (nI (vs.length + 1))), (9, .int 0), (8, .int (nI v)), (7, .int (nI M)), (0, .ref x), (1, .int (nI L.length)), (2, .int (nI K)), (5, .int (nI k)), (6, .int 0)]) hx hb d_MO_rule_217 hl (k := 6) rfl (f_inc1 _) (by decide) rfl (fun ls hl => ?_)
                refine lv_aload_n hx hb d_MO_rule_220 rfl (lv_at hl 4 rfl) ?_
                refine f_get (C := "DutyRulesModel") (T := T_MO) (N := 40) hx hb (fun w q => hT w (s_MO w q)) hown hK hI g_x rfl 2 (by decide) (hT _ w_811) (fun _ q => q) (mo_get (by decide) v_2) d_MO_rule_221 ?_
                refine lv_iconst (v := 5) hx hb d_MO_rule_224 (by decide) ?_
                refine lv_iload_n hx hb d_MO_rule_225 rfl (lv_at hl 5 rfl) ?_
                refine lv_imul hx hb d_MO_rule_226 ?_
                refine f_asi (pk_mul 5 L.length) ?_
                refine lv_iload hx hb d_MO_rule_227 (lv_at hl 0 rfl) ?_
                refine lv_iadd hx hb d_MO_rule_229 ?_
                refine f_asi (nI_add (5 * L.length) (vs.length + 1)) ?_
                refine lv_iload hx hb d_MO_rule_230 (lv_at hl 2 rfl) ?_
                refine f_iastn (k := ((5 * L.length) + (vs.length + 1))) (f' := (fun i => nI (va_up rg1 ((5 * L.length) + (vs.length + 1)) v i))) hx hb hI g_a2 (by decide) (fT.ofK hK (t0 := 0) rfl) (by omega) (by omega) (up_i rg1 ((5 * L.length) + (vs.length + 1)) v) d_MO_rule_232 (fun H locs hI => ?_)
                generalize eh_26 : fU h1 a2 (43, 0, .inl ((G.2.1 0), 200, .inl (fun i => nI (va_up rg1 ((5 * L.length) + (vs.length + 1)) v i)))) = h_26 at hI
                have hX := hX.set (e := .inl ((G.2.1 0), 200, .inl (fun i => nI (va_up rg1 ((5 * L.length) + (vs.length + 1)) v i)))) g_a2 (by decide); rw [eh_26] at hX
                have hF := hF.set (e := .inl ((G.2.1 0), 200, .inl (fun i => nI (va_up rg1 ((5 * L.length) + (vs.length + 1)) v i)))) g_a2 (by decide); rw [eh_26] at hF
                have g_a0 : h_26 a0 = some (41, 0, .inl ((G.2.1 0), 2000, .inl (fun i => nI (tx i)))) := (congrFun eh_26 a0).symm.trans (fU_keep g_a0 (f_neR g_a0 g_a2 (by decide)))
                have g_x : h_26 x = some (40, 0, .inr (8, mo mf1)) := (congrFun eh_26 x).symm.trans (fU_keep g_x (f_neR g_x g_a2 (by decide)))
                have g_a2 : h_26 a2 = some (43, 0, .inl ((G.2.1 0), 200, .inl (fun i => nI (va_up rg1 ((5 * L.length) + (vs.length + 1)) v i)))) := (congrFun eh_26 a2).symm.trans (fU_self _ _ _)
                refine lv_iinc (v := nI (k + 1)) (lv' := [(5, .int (nI (k + 1))), (4, .int (nI (vs.length + 1))), (9, .int 0), (8, .int (nI v)), (7, .int (nI M)), (0, .ref x), (1, .int (nI L.length)), (2, .int (nI K)), (6, .int 0)]) hx hb d_MO_rule_233 hl (k := 7) rfl (f_inc1 _) (by decide) rfl (fun ls hl => ?_)
                refine lv_aload_n hx hb d_MO_rule_236 rfl (lv_at hl 5 rfl) ?_
                have hzA := hI.2.2.2.1
                refine f_callv hI (f_runV C hI (c_MO_next l G h_26 _ x e1 (nI w1) mf1 g_x tn tx ⟨a0, ⟨v_0, v_1⟩, g_a0, btn, btx⟩ v_35 v_36 be1) gm_MO_next w_940 p_MO_next w_938 g_x rfl rfl rfl hl.1 rfl (Nat.le_of_ble_eq_true rfl) ⟨Nat.le_of_ble_eq_true rfl, Nat.le_of_ble_eq_true rfl⟩ d_MO_rule_237 ⟨Nat.le_of_ble_eq_true rfl, Nat.le_of_ble_eq_true rfl⟩) (fun h9 H9 locs hp9 hX9 hz9 hI => ?_)
                obtain ⟨mf_28, g_x, hm9, v_34, v_35, v_36, hF9⟩ := hp9
                have hm1 : ∀ j, j < 34 ∨ 36 < j → mf_28 j = mf j := fun j hj => (hm9 j hj).trans (hm1 j hj)
                rw [nI_1] at v_36
                have g_a0 := hF9 _ _ _ _ g_a0 (by show ¬ _ ∈ _; decide)
                have g_a2 := hF9 _ _ _ _ g_a2 (by show ¬ _ ∈ _; decide)
                have v_0 := (hm9 0 (by decide)).trans v_0
                have v_1 := (hm9 1 (by decide)).trans v_1
                have v_2 := (hm9 2 (by decide)).trans v_2
                have hF := hF.tr (hF9.mono (fun r _ q => (by simp at q ⊢; omega : r ∈ [40, 43])))
                have hX := fX.tr (Nat.le_trans (Nat.le_of_eq hsz.symm) hzA) hX hX9
                refine lv_goto (tgt := 105) hx hb d_MO_rule_240 (by decide) ?_
                have hnb : ¬ rbad K vs v := by
                  rintro (⟨q1, q2⟩ | ⟨q1, q2, q3⟩)
                  · omega
                  · have h2 : rg1 (5 * L.length + 2) = vs.getD 1 0 := hvs 1 (by omega)
                    omega
                have hlen : (vs ++ [v]).length = vs.length + 1 := by simp
                refine ih (k + 1) (by omega) (vs ++ [v]) _ _ _ (va_up rg1 (5 * L.length + (vs.length + 1)) v) (by rw [hlen]; omega) (hRP.trans (by rw [hdr, hp]; exact rp_v hv hnb)) hew1.1 hew1.2 (up_le brg1 (by have := nmM_le hv; omega)) (rep5_up hrep1 (by omega)) ((va_up_ne _ _ (by omega)).trans hkK) (fun i hi => ?_) _ mf_28 _ _ g_x g_a0 g_a2 v_0 v_1 v_2 v_34 v_35 v_36 hm1 hF hX hI ls ?_
                · rw [hlen] at hi
                  by_cases hi2 : i = vs.length
                  · subst hi2; rw [va_up_self, List.getD_eq_getElem?_getD, List.getElem?_append_right (Nat.le_refl _), Nat.sub_self]; rfl
                  · rw [va_up_ne _ _ (by omega), hvs i (by omega), List.getD_eq_getElem?_getD, List.getD_eq_getElem?_getD, List.getElem?_append_left (by omega)]
                rw [hlen]
                exact lv_sub hl [5, 6, 7, 1, 0, 8] rfl
              · have c_24 : vs.length = 2 := (n_eq (a := vs.length) (b := 2) (by omega) (by omega)).mp c_24
                refine lv_iload hx hb d_MO_rule_188 (lv_at hl 0 rfl) ?_
                refine lv_aload_n hx hb d_MO_rule_190 rfl (lv_at hl 2 rfl) ?_
                refine f_get (C := "DutyRulesModel") (T := T_MO) (N := 40) hx hb (fun w q => hT w (s_MO w q)) hown hK hI g_x rfl 2 (by decide) (hT _ w_811) (fun _ q => q) (mo_get (by decide) v_2) d_MO_rule_191 ?_
                refine lv_iconst (v := 5) hx hb d_MO_rule_194 (by decide) ?_
                refine lv_iload_n hx hb d_MO_rule_195 rfl (lv_at hl 3 rfl) ?_
                refine lv_imul hx hb d_MO_rule_196 ?_
                refine f_asi (pk_mul 5 L.length) ?_
                refine lv_iconst (v := 2) hx hb d_MO_rule_197 (by decide) ?_
                refine lv_iadd hx hb d_MO_rule_198 ?_
                refine f_asi (nI_add (5 * L.length) 2) ?_
                refine f_ialdn (k := ((5 * L.length) + 2)) (v := (nI (rg1 ((5 * L.length) + 2)))) hx hb hI g_a2 (fT.ofK hK (t0 := 0) rfl) (by omega) (by omega) rfl d_MO_rule_199 ?_
                refine lv_icmp_gt (tgt := 207) hx hb d_MO_rule_200 (by decide) (fun c_29 => ?_) (fun c_29 => ?_)
                · have c_29 : (rg1 ((5 * L.length) + 2)) < v := (n_lt (a := (rg1 ((5 * L.length) + 2))) (b := v) (by have := brg1 ((5 * L.length) + 2); omega) (by omega)).mp c_29
                  refine lv_iconst (v := 0) hx hb d_MO_rule_207 (by decide) ?_
                  refine lv_istore (lv' := [(9, .int 0), (8, .int (nI v)), (7, .int (nI M)), (0, .ref x), (1, .int (nI L.length)), (2, .int (nI K)), (4, .int (nI vs.length)), (5, .int (nI k)), (6, .int 0)]) hx hb d_MO_rule_208 hl (by decide) rfl (fun ls hl => ?_)
                  refine lv_iload hx hb d_MO_rule_210 (lv_at hl 0 rfl) ?_
                  refine lv_if_eq (tgt := 217) hx hb d_MO_rule_212 (by decide) (fun c_30 => ?_) (fun c_30 => absurd (by decide) c_30)
                  refine lv_iinc (v := nI (vs.length + 1)) (lv' := [(4, .int (nI (vs.length + 1))), (9, .int 0), (8, .int (nI v)), (7, .int (nI M)), (0, .ref x), (1, .int (nI L.length)), (2, .int (nI K)), (5, .int (nI k)), (6, .int 0)]) hx hb d_MO_rule_217 hl (k := 6) rfl (f_inc1 _) (by decide) rfl (fun ls hl => ?_)
                  refine lv_aload_n hx hb d_MO_rule_220 rfl (lv_at hl 4 rfl) ?_
                  refine f_get (C := "DutyRulesModel") (T := T_MO) (N := 40) hx hb (fun w q => hT w (s_MO w q)) hown hK hI g_x rfl 2 (by decide) (hT _ w_811) (fun _ q => q) (mo_get (by decide) v_2) d_MO_rule_221 ?_
                  refine lv_iconst (v := 5) hx hb d_MO_rule_224 (by decide) ?_
                  refine lv_iload_n hx hb d_MO_rule_225 rfl (lv_at hl 5 rfl) ?_
                  refine lv_imul hx hb d_MO_rule_226 ?_
                  refine f_asi (pk_mul 5 L.length) ?_
                  refine lv_iload hx hb d_MO_rule_227 (lv_at hl 0 rfl) ?_
                  refine lv_iadd hx hb d_MO_rule_229 ?_
                  refine f_asi (nI_add (5 * L.length) (vs.length + 1)) ?_
                  refine lv_iload hx hb d_MO_rule_230 (lv_at hl 2 rfl) ?_
                  refine f_iastn (k := ((5 * L.length) + (vs.length + 1))) (f' := (fun i => nI (va_up rg1 ((5 * L.length) + (vs.length + 1)) v i))) hx hb hI g_a2 (by decide) (fT.ofK hK (t0 := 0) rfl) (by omega) (by omega) (up_i rg1 ((5 * L.length) + (vs.length + 1)) v) d_MO_rule_232 (fun H locs hI => ?_)
                  generalize eh_31 : fU h1 a2 (43, 0, .inl ((G.2.1 0), 200, .inl (fun i => nI (va_up rg1 ((5 * L.length) + (vs.length + 1)) v i)))) = h_31 at hI
                  have hX := hX.set (e := .inl ((G.2.1 0), 200, .inl (fun i => nI (va_up rg1 ((5 * L.length) + (vs.length + 1)) v i)))) g_a2 (by decide); rw [eh_31] at hX
                  have hF := hF.set (e := .inl ((G.2.1 0), 200, .inl (fun i => nI (va_up rg1 ((5 * L.length) + (vs.length + 1)) v i)))) g_a2 (by decide); rw [eh_31] at hF
                  have g_a0 : h_31 a0 = some (41, 0, .inl ((G.2.1 0), 2000, .inl (fun i => nI (tx i)))) := (congrFun eh_31 a0).symm.trans (fU_keep g_a0 (f_neR g_a0 g_a2 (by decide)))
                  have g_x : h_31 x = some (40, 0, .inr (8, mo mf1)) := (congrFun eh_31 x).symm.trans (fU_keep g_x (f_neR g_x g_a2 (by decide)))
                  have g_a2 : h_31 a2 = some (43, 0, .inl ((G.2.1 0), 200, .inl (fun i => nI (va_up rg1 ((5 * L.length) + (vs.length + 1)) v i)))) := (congrFun eh_31 a2).symm.trans (fU_self _ _ _)
                  refine lv_iinc (v := nI (k + 1)) (lv' := [(5, .int (nI (k + 1))), (4, .int (nI (vs.length + 1))), (9, .int 0), (8, .int (nI v)), (7, .int (nI M)), (0, .ref x), (1, .int (nI L.length)), (2, .int (nI K)), (6, .int 0)]) hx hb d_MO_rule_233 hl (k := 7) rfl (f_inc1 _) (by decide) rfl (fun ls hl => ?_)
                  refine lv_aload_n hx hb d_MO_rule_236 rfl (lv_at hl 5 rfl) ?_
                  have hzA := hI.2.2.2.1
                  refine f_callv hI (f_runV C hI (c_MO_next l G h_31 _ x e1 (nI w1) mf1 g_x tn tx ⟨a0, ⟨v_0, v_1⟩, g_a0, btn, btx⟩ v_35 v_36 be1) gm_MO_next w_940 p_MO_next w_938 g_x rfl rfl rfl hl.1 rfl (Nat.le_of_ble_eq_true rfl) ⟨Nat.le_of_ble_eq_true rfl, Nat.le_of_ble_eq_true rfl⟩ d_MO_rule_237 ⟨Nat.le_of_ble_eq_true rfl, Nat.le_of_ble_eq_true rfl⟩) (fun h9 H9 locs hp9 hX9 hz9 hI => ?_)
                  obtain ⟨mf_33, g_x, hm9, v_34, v_35, v_36, hF9⟩ := hp9
                  have hm1 : ∀ j, j < 34 ∨ 36 < j → mf_33 j = mf j := fun j hj => (hm9 j hj).trans (hm1 j hj)
                  rw [nI_1] at v_36
                  have g_a0 := hF9 _ _ _ _ g_a0 (by show ¬ _ ∈ _; decide)
                  have g_a2 := hF9 _ _ _ _ g_a2 (by show ¬ _ ∈ _; decide)
                  have v_0 := (hm9 0 (by decide)).trans v_0
                  have v_1 := (hm9 1 (by decide)).trans v_1
                  have v_2 := (hm9 2 (by decide)).trans v_2
                  have hF := hF.tr (hF9.mono (fun r _ q => (by simp at q ⊢; omega : r ∈ [40, 43])))
                  have hX := fX.tr (Nat.le_trans (Nat.le_of_eq hsz.symm) hzA) hX hX9
                  refine lv_goto (tgt := 105) hx hb d_MO_rule_240 (by decide) ?_
                  have hnb : ¬ rbad K vs v := by
                    rintro (⟨q1, q2⟩ | ⟨q1, q2, q3⟩)
                    · omega
                    · have h2 : rg1 (5 * L.length + 2) = vs.getD 1 0 := hvs 1 (by omega)
                      omega
                  have hlen : (vs ++ [v]).length = vs.length + 1 := by simp
                  refine ih (k + 1) (by omega) (vs ++ [v]) _ _ _ (va_up rg1 (5 * L.length + (vs.length + 1)) v) (by rw [hlen]; omega) (hRP.trans (by rw [hdr, hp]; exact rp_v hv hnb)) hew1.1 hew1.2 (up_le brg1 (by have := nmM_le hv; omega)) (rep5_up hrep1 (by omega)) ((va_up_ne _ _ (by omega)).trans hkK) (fun i hi => ?_) _ mf_33 _ _ g_x g_a0 g_a2 v_0 v_1 v_2 v_34 v_35 v_36 hm1 hF hX hI ls ?_
                  · rw [hlen] at hi
                    by_cases hi2 : i = vs.length
                    · subst hi2; rw [va_up_self, List.getD_eq_getElem?_getD, List.getElem?_append_right (Nat.le_refl _), Nat.sub_self]; rfl
                    · rw [va_up_ne _ _ (by omega), hvs i (by omega), List.getD_eq_getElem?_getD, List.getD_eq_getElem?_getD, List.getElem?_append_left (by omega)]
                  rw [hlen]
                  exact lv_sub hl [5, 6, 7, 1, 0, 8] rfl
                · have c_29 : ¬ (rg1 ((5 * L.length) + 2)) < v := fun q => c_29 ((n_lt (a := (rg1 ((5 * L.length) + 2))) (b := v) (by have := brg1 ((5 * L.length) + 2); omega) (by omega)).mpr q)
                  refine lv_iconst (v := 1) hx hb d_MO_rule_203 (by decide) ?_
                  refine lv_goto (tgt := 208) hx hb d_MO_rule_204 (by decide) ?_
                  refine lv_istore (lv' := [(9, .int 1), (8, .int (nI v)), (7, .int (nI M)), (0, .ref x), (1, .int (nI L.length)), (2, .int (nI K)), (4, .int (nI vs.length)), (5, .int (nI k)), (6, .int 0)]) hx hb d_MO_rule_208 hl (by decide) rfl (fun ls hl => ?_)
                  refine lv_iload hx hb d_MO_rule_210 (lv_at hl 0 rfl) ?_
                  refine lv_if_eq (tgt := 217) hx hb d_MO_rule_212 (by decide) (fun c_34 => absurd c_34 (by decide)) (fun c_34 => ?_)
                  refine lv_iconst (v := 0) hx hb d_MO_rule_215 (by decide) ?_
                  exact f_zret C hr rfl hI ⟨false, b1, e1, w1, (K, vs), rg1, mf1, rule1_go (q := (false, b1, e1, w1, vs)) hKd hno (hRP.trans (by rw [hdr, hp]; exact rp_vb hv (Or.inr ⟨c_19, c_24, Nat.le_trans (by omega) (Nat.le_of_eq (show rg1 (5 * L.length + 2) = vs.getD 1 0 from hvs 1 (by omega)))⟩))), rfl, g_x, hm1, v_34, v_35, v_36, bb1, be1, ⟨a2, v_2, g_a2, brg1⟩, (fun q => by cases q), hF⟩ hX (Nat.le_refl _) (Nat.le_refl _) d_MO_rule_216
          · have c_18 : K = 4 := (n_eq (a := K) (b := 4) (by omega) (by omega)).mp c_18
            refine lv_iload hx hb d_MO_rule_173 (lv_at hl 0 rfl) ?_
            refine lv_if_eq (tgt := 203) hx hb d_MO_rule_175 (by decide) (fun c_35 => ?_) (fun c_35 => ?_)
            · have c_35 : v = 0 := (n_eq (a := v) (b := 0) (by omega) (by omega)).mp c_35
              refine lv_iconst (v := 1) hx hb d_MO_rule_203 (by decide) ?_
              refine lv_goto (tgt := 208) hx hb d_MO_rule_204 (by decide) ?_
              refine lv_istore (lv' := [(9, .int 1), (8, .int (nI v)), (7, .int (nI M)), (0, .ref x), (1, .int (nI L.length)), (2, .int (nI K)), (4, .int (nI vs.length)), (5, .int (nI k)), (6, .int 0)]) hx hb d_MO_rule_208 hl (by decide) rfl (fun ls hl => ?_)
              refine lv_iload hx hb d_MO_rule_210 (lv_at hl 0 rfl) ?_
              refine lv_if_eq (tgt := 217) hx hb d_MO_rule_212 (by decide) (fun c_36 => absurd c_36 (by decide)) (fun c_36 => ?_)
              refine lv_iconst (v := 0) hx hb d_MO_rule_215 (by decide) ?_
              exact f_zret C hr rfl hI ⟨false, b1, e1, w1, (K, vs), rg1, mf1, rule1_go (q := (false, b1, e1, w1, vs)) hKd hno (hRP.trans (by rw [hdr, hp]; exact rp_vb hv (Or.inl ⟨c_18, c_35⟩))), rfl, g_x, hm1, v_34, v_35, v_36, bb1, be1, ⟨a2, v_2, g_a2, brg1⟩, (fun q => by cases q), hF⟩ hX (Nat.le_refl _) (Nat.le_refl _) d_MO_rule_216
            · have c_35 : ¬ v = 0 := fun q => c_35 ((n_eq (a := v) (b := 0) (by omega) (by omega)).mpr q)
              refine lv_iload_n hx hb d_MO_rule_178 rfl (lv_at hl 4 rfl) ?_
              refine lv_if_ne (tgt := 207) hx hb d_MO_rule_179 (by decide) (fun c_37 => ?_) (fun c_37 => ?_)
              · have c_37 : ¬ K = 0 := fun q => c_37 ((n_eq (a := K) (b := 0) (by omega) (by omega)).mpr q)
                refine lv_iconst (v := 0) hx hb d_MO_rule_207 (by decide) ?_
                refine lv_istore (lv' := [(9, .int 0), (8, .int (nI v)), (7, .int (nI M)), (0, .ref x), (1, .int (nI L.length)), (2, .int (nI K)), (4, .int (nI vs.length)), (5, .int (nI k)), (6, .int 0)]) hx hb d_MO_rule_208 hl (by decide) rfl (fun ls hl => ?_)
                refine lv_iload hx hb d_MO_rule_210 (lv_at hl 0 rfl) ?_
                refine lv_if_eq (tgt := 217) hx hb d_MO_rule_212 (by decide) (fun c_38 => ?_) (fun c_38 => absurd (by decide) c_38)
                refine lv_iinc (v := nI (vs.length + 1)) (lv' := [(4, .int (nI (vs.length + 1))), (9, .int 0), (8, .int (nI v)), (7, .int (nI M)), (0, .ref x), (1, .int (nI L.length)), (2, .int (nI K)), (5, .int (nI k)), (6, .int 0)]) hx hb d_MO_rule_217 hl (k := 6) rfl (f_inc1 _) (by decide) rfl (fun ls hl => ?_)
                refine lv_aload_n hx hb d_MO_rule_220 rfl (lv_at hl 4 rfl) ?_
                refine f_get (C := "DutyRulesModel") (T := T_MO) (N := 40) hx hb (fun w q => hT w (s_MO w q)) hown hK hI g_x rfl 2 (by decide) (hT _ w_811) (fun _ q => q) (mo_get (by decide) v_2) d_MO_rule_221 ?_
                refine lv_iconst (v := 5) hx hb d_MO_rule_224 (by decide) ?_
                refine lv_iload_n hx hb d_MO_rule_225 rfl (lv_at hl 5 rfl) ?_
                refine lv_imul hx hb d_MO_rule_226 ?_
                refine f_asi (pk_mul 5 L.length) ?_
                refine lv_iload hx hb d_MO_rule_227 (lv_at hl 0 rfl) ?_
                refine lv_iadd hx hb d_MO_rule_229 ?_
                refine f_asi (nI_add (5 * L.length) (vs.length + 1)) ?_
                refine lv_iload hx hb d_MO_rule_230 (lv_at hl 2 rfl) ?_
                refine f_iastn (k := ((5 * L.length) + (vs.length + 1))) (f' := (fun i => nI (va_up rg1 ((5 * L.length) + (vs.length + 1)) v i))) hx hb hI g_a2 (by decide) (fT.ofK hK (t0 := 0) rfl) (by omega) (by omega) (up_i rg1 ((5 * L.length) + (vs.length + 1)) v) d_MO_rule_232 (fun H locs hI => ?_)
                generalize eh_39 : fU h1 a2 (43, 0, .inl ((G.2.1 0), 200, .inl (fun i => nI (va_up rg1 ((5 * L.length) + (vs.length + 1)) v i)))) = h_39 at hI
                have hX := hX.set (e := .inl ((G.2.1 0), 200, .inl (fun i => nI (va_up rg1 ((5 * L.length) + (vs.length + 1)) v i)))) g_a2 (by decide); rw [eh_39] at hX
                have hF := hF.set (e := .inl ((G.2.1 0), 200, .inl (fun i => nI (va_up rg1 ((5 * L.length) + (vs.length + 1)) v i)))) g_a2 (by decide); rw [eh_39] at hF
                have g_a0 : h_39 a0 = some (41, 0, .inl ((G.2.1 0), 2000, .inl (fun i => nI (tx i)))) := (congrFun eh_39 a0).symm.trans (fU_keep g_a0 (f_neR g_a0 g_a2 (by decide)))
                have g_x : h_39 x = some (40, 0, .inr (8, mo mf1)) := (congrFun eh_39 x).symm.trans (fU_keep g_x (f_neR g_x g_a2 (by decide)))
                have g_a2 : h_39 a2 = some (43, 0, .inl ((G.2.1 0), 200, .inl (fun i => nI (va_up rg1 ((5 * L.length) + (vs.length + 1)) v i)))) := (congrFun eh_39 a2).symm.trans (fU_self _ _ _)
                refine lv_iinc (v := nI (k + 1)) (lv' := [(5, .int (nI (k + 1))), (4, .int (nI (vs.length + 1))), (9, .int 0), (8, .int (nI v)), (7, .int (nI M)), (0, .ref x), (1, .int (nI L.length)), (2, .int (nI K)), (6, .int 0)]) hx hb d_MO_rule_233 hl (k := 7) rfl (f_inc1 _) (by decide) rfl (fun ls hl => ?_)
                refine lv_aload_n hx hb d_MO_rule_236 rfl (lv_at hl 5 rfl) ?_
                have hzA := hI.2.2.2.1
                refine f_callv hI (f_runV C hI (c_MO_next l G h_39 _ x e1 (nI w1) mf1 g_x tn tx ⟨a0, ⟨v_0, v_1⟩, g_a0, btn, btx⟩ v_35 v_36 be1) gm_MO_next w_940 p_MO_next w_938 g_x rfl rfl rfl hl.1 rfl (Nat.le_of_ble_eq_true rfl) ⟨Nat.le_of_ble_eq_true rfl, Nat.le_of_ble_eq_true rfl⟩ d_MO_rule_237 ⟨Nat.le_of_ble_eq_true rfl, Nat.le_of_ble_eq_true rfl⟩) (fun h9 H9 locs hp9 hX9 hz9 hI => ?_)
                obtain ⟨mf_41, g_x, hm9, v_34, v_35, v_36, hF9⟩ := hp9
                have hm1 : ∀ j, j < 34 ∨ 36 < j → mf_41 j = mf j := fun j hj => (hm9 j hj).trans (hm1 j hj)
                rw [nI_1] at v_36
                have g_a0 := hF9 _ _ _ _ g_a0 (by show ¬ _ ∈ _; decide)
                have g_a2 := hF9 _ _ _ _ g_a2 (by show ¬ _ ∈ _; decide)
                have v_0 := (hm9 0 (by decide)).trans v_0
                have v_1 := (hm9 1 (by decide)).trans v_1
                have v_2 := (hm9 2 (by decide)).trans v_2
                have hF := hF.tr (hF9.mono (fun r _ q => (by simp at q ⊢; omega : r ∈ [40, 43])))
                have hX := fX.tr (Nat.le_trans (Nat.le_of_eq hsz.symm) hzA) hX hX9
                refine lv_goto (tgt := 105) hx hb d_MO_rule_240 (by decide) ?_
                have hnb : ¬ rbad K vs v := by
                  rintro (⟨q1, q2⟩ | ⟨q1, q2, q3⟩)
                  · omega
                  · have h2 : rg1 (5 * L.length + 2) = vs.getD 1 0 := hvs 1 (by omega)
                    omega
                have hlen : (vs ++ [v]).length = vs.length + 1 := by simp
                refine ih (k + 1) (by omega) (vs ++ [v]) _ _ _ (va_up rg1 (5 * L.length + (vs.length + 1)) v) (by rw [hlen]; omega) (hRP.trans (by rw [hdr, hp]; exact rp_v hv hnb)) hew1.1 hew1.2 (up_le brg1 (by have := nmM_le hv; omega)) (rep5_up hrep1 (by omega)) ((va_up_ne _ _ (by omega)).trans hkK) (fun i hi => ?_) _ mf_41 _ _ g_x g_a0 g_a2 v_0 v_1 v_2 v_34 v_35 v_36 hm1 hF hX hI ls ?_
                · rw [hlen] at hi
                  by_cases hi2 : i = vs.length
                  · subst hi2; rw [va_up_self, List.getD_eq_getElem?_getD, List.getElem?_append_right (Nat.le_refl _), Nat.sub_self]; rfl
                  · rw [va_up_ne _ _ (by omega), hvs i (by omega), List.getD_eq_getElem?_getD, List.getD_eq_getElem?_getD, List.getElem?_append_left (by omega)]
                rw [hlen]
                exact lv_sub hl [5, 6, 7, 1, 0, 8] rfl
              · have c_37 : K = 0 := (n_eq (a := K) (b := 0) (by omega) (by omega)).mp c_37
                refine lv_iload hx hb d_MO_rule_182 (lv_at hl 5 rfl) ?_
                refine lv_iconst (v := 2) hx hb d_MO_rule_184 (by decide) ?_
                refine lv_icmp_ne (tgt := 207) hx hb d_MO_rule_185 (by decide) (fun c_42 => ?_) (fun c_42 => ?_)
                · have c_42 : ¬ vs.length = 2 := fun q => c_42 ((n_eq (a := vs.length) (b := 2) (by omega) (by omega)).mpr q)
                  refine lv_iconst (v := 0) hx hb d_MO_rule_207 (by decide) ?_
                  refine lv_istore (lv' := [(9, .int 0), (8, .int (nI v)), (7, .int (nI M)), (0, .ref x), (1, .int (nI L.length)), (2, .int (nI K)), (4, .int (nI vs.length)), (5, .int (nI k)), (6, .int 0)]) hx hb d_MO_rule_208 hl (by decide) rfl (fun ls hl => ?_)
                  refine lv_iload hx hb d_MO_rule_210 (lv_at hl 0 rfl) ?_
                  refine lv_if_eq (tgt := 217) hx hb d_MO_rule_212 (by decide) (fun c_43 => ?_) (fun c_43 => absurd (by decide) c_43)
                  refine lv_iinc (v := nI (vs.length + 1)) (lv' := [(4, .int (nI (vs.length + 1))), (9, .int 0), (8, .int (nI v)), (7, .int (nI M)), (0, .ref x), (1, .int (nI L.length)), (2, .int (nI K)), (5, .int (nI k)), (6, .int 0)]) hx hb d_MO_rule_217 hl (k := 6) rfl (f_inc1 _) (by decide) rfl (fun ls hl => ?_)
                  refine lv_aload_n hx hb d_MO_rule_220 rfl (lv_at hl 4 rfl) ?_
                  refine f_get (C := "DutyRulesModel") (T := T_MO) (N := 40) hx hb (fun w q => hT w (s_MO w q)) hown hK hI g_x rfl 2 (by decide) (hT _ w_811) (fun _ q => q) (mo_get (by decide) v_2) d_MO_rule_221 ?_
                  refine lv_iconst (v := 5) hx hb d_MO_rule_224 (by decide) ?_
                  refine lv_iload_n hx hb d_MO_rule_225 rfl (lv_at hl 5 rfl) ?_
                  refine lv_imul hx hb d_MO_rule_226 ?_
                  refine f_asi (pk_mul 5 L.length) ?_
                  refine lv_iload hx hb d_MO_rule_227 (lv_at hl 0 rfl) ?_
                  refine lv_iadd hx hb d_MO_rule_229 ?_
                  refine f_asi (nI_add (5 * L.length) (vs.length + 1)) ?_
                  refine lv_iload hx hb d_MO_rule_230 (lv_at hl 2 rfl) ?_
                  refine f_iastn (k := ((5 * L.length) + (vs.length + 1))) (f' := (fun i => nI (va_up rg1 ((5 * L.length) + (vs.length + 1)) v i))) hx hb hI g_a2 (by decide) (fT.ofK hK (t0 := 0) rfl) (by omega) (by omega) (up_i rg1 ((5 * L.length) + (vs.length + 1)) v) d_MO_rule_232 (fun H locs hI => ?_)
                  generalize eh_44 : fU h1 a2 (43, 0, .inl ((G.2.1 0), 200, .inl (fun i => nI (va_up rg1 ((5 * L.length) + (vs.length + 1)) v i)))) = h_44 at hI
                  have hX := hX.set (e := .inl ((G.2.1 0), 200, .inl (fun i => nI (va_up rg1 ((5 * L.length) + (vs.length + 1)) v i)))) g_a2 (by decide); rw [eh_44] at hX
                  have hF := hF.set (e := .inl ((G.2.1 0), 200, .inl (fun i => nI (va_up rg1 ((5 * L.length) + (vs.length + 1)) v i)))) g_a2 (by decide); rw [eh_44] at hF
                  have g_a0 : h_44 a0 = some (41, 0, .inl ((G.2.1 0), 2000, .inl (fun i => nI (tx i)))) := (congrFun eh_44 a0).symm.trans (fU_keep g_a0 (f_neR g_a0 g_a2 (by decide)))
                  have g_x : h_44 x = some (40, 0, .inr (8, mo mf1)) := (congrFun eh_44 x).symm.trans (fU_keep g_x (f_neR g_x g_a2 (by decide)))
                  have g_a2 : h_44 a2 = some (43, 0, .inl ((G.2.1 0), 200, .inl (fun i => nI (va_up rg1 ((5 * L.length) + (vs.length + 1)) v i)))) := (congrFun eh_44 a2).symm.trans (fU_self _ _ _)
                  refine lv_iinc (v := nI (k + 1)) (lv' := [(5, .int (nI (k + 1))), (4, .int (nI (vs.length + 1))), (9, .int 0), (8, .int (nI v)), (7, .int (nI M)), (0, .ref x), (1, .int (nI L.length)), (2, .int (nI K)), (6, .int 0)]) hx hb d_MO_rule_233 hl (k := 7) rfl (f_inc1 _) (by decide) rfl (fun ls hl => ?_)
                  refine lv_aload_n hx hb d_MO_rule_236 rfl (lv_at hl 5 rfl) ?_
                  have hzA := hI.2.2.2.1
                  refine f_callv hI (f_runV C hI (c_MO_next l G h_44 _ x e1 (nI w1) mf1 g_x tn tx ⟨a0, ⟨v_0, v_1⟩, g_a0, btn, btx⟩ v_35 v_36 be1) gm_MO_next w_940 p_MO_next w_938 g_x rfl rfl rfl hl.1 rfl (Nat.le_of_ble_eq_true rfl) ⟨Nat.le_of_ble_eq_true rfl, Nat.le_of_ble_eq_true rfl⟩ d_MO_rule_237 ⟨Nat.le_of_ble_eq_true rfl, Nat.le_of_ble_eq_true rfl⟩) (fun h9 H9 locs hp9 hX9 hz9 hI => ?_)
                  obtain ⟨mf_46, g_x, hm9, v_34, v_35, v_36, hF9⟩ := hp9
                  have hm1 : ∀ j, j < 34 ∨ 36 < j → mf_46 j = mf j := fun j hj => (hm9 j hj).trans (hm1 j hj)
                  rw [nI_1] at v_36
                  have g_a0 := hF9 _ _ _ _ g_a0 (by show ¬ _ ∈ _; decide)
                  have g_a2 := hF9 _ _ _ _ g_a2 (by show ¬ _ ∈ _; decide)
                  have v_0 := (hm9 0 (by decide)).trans v_0
                  have v_1 := (hm9 1 (by decide)).trans v_1
                  have v_2 := (hm9 2 (by decide)).trans v_2
                  have hF := hF.tr (hF9.mono (fun r _ q => (by simp at q ⊢; omega : r ∈ [40, 43])))
                  have hX := fX.tr (Nat.le_trans (Nat.le_of_eq hsz.symm) hzA) hX hX9
                  refine lv_goto (tgt := 105) hx hb d_MO_rule_240 (by decide) ?_
                  have hnb : ¬ rbad K vs v := by
                    rintro (⟨q1, q2⟩ | ⟨q1, q2, q3⟩)
                    · omega
                    · have h2 : rg1 (5 * L.length + 2) = vs.getD 1 0 := hvs 1 (by omega)
                      omega
                  have hlen : (vs ++ [v]).length = vs.length + 1 := by simp
                  refine ih (k + 1) (by omega) (vs ++ [v]) _ _ _ (va_up rg1 (5 * L.length + (vs.length + 1)) v) (by rw [hlen]; omega) (hRP.trans (by rw [hdr, hp]; exact rp_v hv hnb)) hew1.1 hew1.2 (up_le brg1 (by have := nmM_le hv; omega)) (rep5_up hrep1 (by omega)) ((va_up_ne _ _ (by omega)).trans hkK) (fun i hi => ?_) _ mf_46 _ _ g_x g_a0 g_a2 v_0 v_1 v_2 v_34 v_35 v_36 hm1 hF hX hI ls ?_
                  · rw [hlen] at hi
                    by_cases hi2 : i = vs.length
                    · subst hi2; rw [va_up_self, List.getD_eq_getElem?_getD, List.getElem?_append_right (Nat.le_refl _), Nat.sub_self]; rfl
                    · rw [va_up_ne _ _ (by omega), hvs i (by omega), List.getD_eq_getElem?_getD, List.getD_eq_getElem?_getD, List.getElem?_append_left (by omega)]
                  rw [hlen]
                  exact lv_sub hl [5, 6, 7, 1, 0, 8] rfl
                · have c_42 : vs.length = 2 := (n_eq (a := vs.length) (b := 2) (by omega) (by omega)).mp c_42
                  refine lv_iload hx hb d_MO_rule_188 (lv_at hl 0 rfl) ?_
                  refine lv_aload_n hx hb d_MO_rule_190 rfl (lv_at hl 2 rfl) ?_
                  refine f_get (C := "DutyRulesModel") (T := T_MO) (N := 40) hx hb (fun w q => hT w (s_MO w q)) hown hK hI g_x rfl 2 (by decide) (hT _ w_811) (fun _ q => q) (mo_get (by decide) v_2) d_MO_rule_191 ?_
                  refine lv_iconst (v := 5) hx hb d_MO_rule_194 (by decide) ?_
                  refine lv_iload_n hx hb d_MO_rule_195 rfl (lv_at hl 3 rfl) ?_
                  refine lv_imul hx hb d_MO_rule_196 ?_
                  refine f_asi (pk_mul 5 L.length) ?_
                  refine lv_iconst (v := 2) hx hb d_MO_rule_197 (by decide) ?_
                  refine lv_iadd hx hb d_MO_rule_198 ?_
                  refine f_asi (nI_add (5 * L.length) 2) ?_
                  refine f_ialdn (k := ((5 * L.length) + 2)) (v := (nI (rg1 ((5 * L.length) + 2)))) hx hb hI g_a2 (fT.ofK hK (t0 := 0) rfl) (by omega) (by omega) rfl d_MO_rule_199 ?_
                  refine lv_icmp_gt (tgt := 207) hx hb d_MO_rule_200 (by decide) (fun c_47 => ?_) (fun c_47 => ?_)
                  · have c_47 : (rg1 ((5 * L.length) + 2)) < v := (n_lt (a := (rg1 ((5 * L.length) + 2))) (b := v) (by have := brg1 ((5 * L.length) + 2); omega) (by omega)).mp c_47
                    refine lv_iconst (v := 0) hx hb d_MO_rule_207 (by decide) ?_
                    refine lv_istore (lv' := [(9, .int 0), (8, .int (nI v)), (7, .int (nI M)), (0, .ref x), (1, .int (nI L.length)), (2, .int (nI K)), (4, .int (nI vs.length)), (5, .int (nI k)), (6, .int 0)]) hx hb d_MO_rule_208 hl (by decide) rfl (fun ls hl => ?_)
                    refine lv_iload hx hb d_MO_rule_210 (lv_at hl 0 rfl) ?_
                    refine lv_if_eq (tgt := 217) hx hb d_MO_rule_212 (by decide) (fun c_48 => ?_) (fun c_48 => absurd (by decide) c_48)
                    refine lv_iinc (v := nI (vs.length + 1)) (lv' := [(4, .int (nI (vs.length + 1))), (9, .int 0), (8, .int (nI v)), (7, .int (nI M)), (0, .ref x), (1, .int (nI L.length)), (2, .int (nI K)), (5, .int (nI k)), (6, .int 0)]) hx hb d_MO_rule_217 hl (k := 6) rfl (f_inc1 _) (by decide) rfl (fun ls hl => ?_)
                    refine lv_aload_n hx hb d_MO_rule_220 rfl (lv_at hl 4 rfl) ?_
                    refine f_get (C := "DutyRulesModel") (T := T_MO) (N := 40) hx hb (fun w q => hT w (s_MO w q)) hown hK hI g_x rfl 2 (by decide) (hT _ w_811) (fun _ q => q) (mo_get (by decide) v_2) d_MO_rule_221 ?_
                    refine lv_iconst (v := 5) hx hb d_MO_rule_224 (by decide) ?_
                    refine lv_iload_n hx hb d_MO_rule_225 rfl (lv_at hl 5 rfl) ?_
                    refine lv_imul hx hb d_MO_rule_226 ?_
                    refine f_asi (pk_mul 5 L.length) ?_
                    refine lv_iload hx hb d_MO_rule_227 (lv_at hl 0 rfl) ?_
                    refine lv_iadd hx hb d_MO_rule_229 ?_
                    refine f_asi (nI_add (5 * L.length) (vs.length + 1)) ?_
                    refine lv_iload hx hb d_MO_rule_230 (lv_at hl 2 rfl) ?_
                    refine f_iastn (k := ((5 * L.length) + (vs.length + 1))) (f' := (fun i => nI (va_up rg1 ((5 * L.length) + (vs.length + 1)) v i))) hx hb hI g_a2 (by decide) (fT.ofK hK (t0 := 0) rfl) (by omega) (by omega) (up_i rg1 ((5 * L.length) + (vs.length + 1)) v) d_MO_rule_232 (fun H locs hI => ?_)
                    generalize eh_49 : fU h1 a2 (43, 0, .inl ((G.2.1 0), 200, .inl (fun i => nI (va_up rg1 ((5 * L.length) + (vs.length + 1)) v i)))) = h_49 at hI
                    have hX := hX.set (e := .inl ((G.2.1 0), 200, .inl (fun i => nI (va_up rg1 ((5 * L.length) + (vs.length + 1)) v i)))) g_a2 (by decide); rw [eh_49] at hX
                    have hF := hF.set (e := .inl ((G.2.1 0), 200, .inl (fun i => nI (va_up rg1 ((5 * L.length) + (vs.length + 1)) v i)))) g_a2 (by decide); rw [eh_49] at hF
                    have g_a0 : h_49 a0 = some (41, 0, .inl ((G.2.1 0), 2000, .inl (fun i => nI (tx i)))) := (congrFun eh_49 a0).symm.trans (fU_keep g_a0 (f_neR g_a0 g_a2 (by decide)))
                    have g_x : h_49 x = some (40, 0, .inr (8, mo mf1)) := (congrFun eh_49 x).symm.trans (fU_keep g_x (f_neR g_x g_a2 (by decide)))
                    have g_a2 : h_49 a2 = some (43, 0, .inl ((G.2.1 0), 200, .inl (fun i => nI (va_up rg1 ((5 * L.length) + (vs.length + 1)) v i)))) := (congrFun eh_49 a2).symm.trans (fU_self _ _ _)
                    refine lv_iinc (v := nI (k + 1)) (lv' := [(5, .int (nI (k + 1))), (4, .int (nI (vs.length + 1))), (9, .int 0), (8, .int (nI v)), (7, .int (nI M)), (0, .ref x), (1, .int (nI L.length)), (2, .int (nI K)), (6, .int 0)]) hx hb d_MO_rule_233 hl (k := 7) rfl (f_inc1 _) (by decide) rfl (fun ls hl => ?_)
                    refine lv_aload_n hx hb d_MO_rule_236 rfl (lv_at hl 5 rfl) ?_
                    have hzA := hI.2.2.2.1
                    refine f_callv hI (f_runV C hI (c_MO_next l G h_49 _ x e1 (nI w1) mf1 g_x tn tx ⟨a0, ⟨v_0, v_1⟩, g_a0, btn, btx⟩ v_35 v_36 be1) gm_MO_next w_940 p_MO_next w_938 g_x rfl rfl rfl hl.1 rfl (Nat.le_of_ble_eq_true rfl) ⟨Nat.le_of_ble_eq_true rfl, Nat.le_of_ble_eq_true rfl⟩ d_MO_rule_237 ⟨Nat.le_of_ble_eq_true rfl, Nat.le_of_ble_eq_true rfl⟩) (fun h9 H9 locs hp9 hX9 hz9 hI => ?_)
                    obtain ⟨mf_51, g_x, hm9, v_34, v_35, v_36, hF9⟩ := hp9
                    have hm1 : ∀ j, j < 34 ∨ 36 < j → mf_51 j = mf j := fun j hj => (hm9 j hj).trans (hm1 j hj)
                    rw [nI_1] at v_36
                    have g_a0 := hF9 _ _ _ _ g_a0 (by show ¬ _ ∈ _; decide)
                    have g_a2 := hF9 _ _ _ _ g_a2 (by show ¬ _ ∈ _; decide)
                    have v_0 := (hm9 0 (by decide)).trans v_0
                    have v_1 := (hm9 1 (by decide)).trans v_1
                    have v_2 := (hm9 2 (by decide)).trans v_2
                    have hF := hF.tr (hF9.mono (fun r _ q => (by simp at q ⊢; omega : r ∈ [40, 43])))
                    have hX := fX.tr (Nat.le_trans (Nat.le_of_eq hsz.symm) hzA) hX hX9
                    refine lv_goto (tgt := 105) hx hb d_MO_rule_240 (by decide) ?_
                    have hnb : ¬ rbad K vs v := by
                      rintro (⟨q1, q2⟩ | ⟨q1, q2, q3⟩)
                      · omega
                      · have h2 : rg1 (5 * L.length + 2) = vs.getD 1 0 := hvs 1 (by omega)
                        omega
                    have hlen : (vs ++ [v]).length = vs.length + 1 := by simp
                    refine ih (k + 1) (by omega) (vs ++ [v]) _ _ _ (va_up rg1 (5 * L.length + (vs.length + 1)) v) (by rw [hlen]; omega) (hRP.trans (by rw [hdr, hp]; exact rp_v hv hnb)) hew1.1 hew1.2 (up_le brg1 (by have := nmM_le hv; omega)) (rep5_up hrep1 (by omega)) ((va_up_ne _ _ (by omega)).trans hkK) (fun i hi => ?_) _ mf_51 _ _ g_x g_a0 g_a2 v_0 v_1 v_2 v_34 v_35 v_36 hm1 hF hX hI ls ?_
                    · rw [hlen] at hi
                      by_cases hi2 : i = vs.length
                      · subst hi2; rw [va_up_self, List.getD_eq_getElem?_getD, List.getElem?_append_right (Nat.le_refl _), Nat.sub_self]; rfl
                      · rw [va_up_ne _ _ (by omega), hvs i (by omega), List.getD_eq_getElem?_getD, List.getD_eq_getElem?_getD, List.getElem?_append_left (by omega)]
                    rw [hlen]
                    exact lv_sub hl [5, 6, 7, 1, 0, 8] rfl
                  · have c_47 : ¬ (rg1 ((5 * L.length) + 2)) < v := fun q => c_47 ((n_lt (a := (rg1 ((5 * L.length) + 2))) (b := v) (by have := brg1 ((5 * L.length) + 2); omega) (by omega)).mpr q)
                    refine lv_iconst (v := 1) hx hb d_MO_rule_203 (by decide) ?_
                    refine lv_goto (tgt := 208) hx hb d_MO_rule_204 (by decide) ?_
                    refine lv_istore (lv' := [(9, .int 1), (8, .int (nI v)), (7, .int (nI M)), (0, .ref x), (1, .int (nI L.length)), (2, .int (nI K)), (4, .int (nI vs.length)), (5, .int (nI k)), (6, .int 0)]) hx hb d_MO_rule_208 hl (by decide) rfl (fun ls hl => ?_)
                    refine lv_iload hx hb d_MO_rule_210 (lv_at hl 0 rfl) ?_
                    refine lv_if_eq (tgt := 217) hx hb d_MO_rule_212 (by decide) (fun c_52 => absurd c_52 (by decide)) (fun c_52 => ?_)
                    refine lv_iconst (v := 0) hx hb d_MO_rule_215 (by decide) ?_
                    exact f_zret C hr rfl hI ⟨false, b1, e1, w1, (K, vs), rg1, mf1, rule1_go (q := (false, b1, e1, w1, vs)) hKd hno (hRP.trans (by rw [hdr, hp]; exact rp_vb hv (Or.inr ⟨c_37, c_42, Nat.le_trans (by omega) (Nat.le_of_eq (show rg1 (5 * L.length + 2) = vs.getD 1 0 from hvs 1 (by omega)))⟩))), rfl, g_x, hm1, v_34, v_35, v_36, bb1, be1, ⟨a2, v_2, g_a2, brg1⟩, (fun q => by cases q), hF⟩ hX (Nat.le_refl _) (Nat.le_refl _) d_MO_rule_216
      · have hpr := plg_r hK6 hk8 hp
        have hw13 := hpr.1
        have hwd : ¬ wd = 12 := fun q => absurd (hpr.2.2.mp q) (by omega)
        refine lv_iload hx hb d_MO_rule_105 (lv_at hl 5 rfl) ?_
        refine lv_if_ne (tgt := 243) hx hb d_MO_rule_107 (by decide) (fun c_53 => absurd (by decide) c_53) (fun c_53 => ?_)
        refine lv_iload_n hx hb d_MO_rule_110 rfl (lv_at hl 2 rfl) ?_
        refine lv_iload hx hb d_MO_rule_111 (lv_at hl 4 rfl) ?_
        refine f_calli hI (f_runS C hI (c_MO_part l G h1 _ (nI K) (nI k)) gm_MO_part w_962 w_961 rfl hl.1 rfl (Nat.le_of_ble_eq_true rfl) ⟨Nat.le_of_ble_eq_true rfl, Nat.le_of_ble_eq_true rfl⟩ d_MO_rule_113 ⟨Nat.le_of_ble_eq_true rfl, Nat.le_of_ble_eq_true rfl⟩) (fun r_54 h8 H9 locs hp9 hX9 hz9 hI => ?_)
        obtain ⟨rfl, e9⟩ := hp9
        rw [e9] at hI
        clear hX9 e9
        refine f_asi ((part_n K hK6 k (by omega) hk8).trans (show pv (plg K k) = pv (.inr wd) by rw [hp])) ?_
        refine lv_istore (lv' := [(7, .int (pv (.inr wd))), (0, .ref x), (1, .int (nI L.length)), (2, .int (nI K)), (4, .int (nI vs.length)), (5, .int (nI k)), (6, .int 0)]) hx hb d_MO_rule_116 hl (by decide) rfl (fun ls hl => ?_)
        refine lv_iload hx hb d_MO_rule_118 (lv_at hl 0 rfl) ?_
        refine lv_if_ge (tgt := 154) hx hb d_MO_rule_120 (by decide) (fun c_55 => absurd c_55 (i_nle (pv_w wd hw13).2)) (fun c_55 => ?_)
        refine lv_aload_n hx hb d_MO_rule_123 rfl (lv_at hl 1 rfl) ?_
        refine lv_bipush (v := (-100)) hx hb d_MO_rule_124 (by decide) ?_
        refine lv_iload hx hb d_MO_rule_126 (lv_at hl 0 rfl) ?_
        refine lv_isub hx hb d_MO_rule_128 ?_
        refine f_asi (pv_w wd hw13).1 ?_
        refine f_calli hI (f_runV C hI (c_MO_is l G h1 _ x b1 e1 wd mf1 g_x tn tx ⟨a0, ⟨v_0, v_1⟩, g_a0, btn, btx⟩ hS1 v_34 v_35 bb1 be1 hw13) gm_MO_is w_951 p_MO_is w_949 g_x rfl rfl rfl hl.1 rfl (Nat.le_of_ble_eq_true rfl) ⟨Nat.le_of_ble_eq_true rfl, Nat.le_of_ble_eq_true rfl⟩ d_MO_rule_129 ⟨Nat.le_of_ble_eq_true rfl, Nat.le_of_ble_eq_true rfl⟩) (fun r_56 h9 H9 locs hp9 hX9 hz9 hI => ?_)
        obtain ⟨hq9, e9⟩ := hp9
        rw [e9] at hI
        clear hX9 e9
        rcases hq9 with ⟨rfl, hW⟩ | ⟨rfl, hW⟩
        · skip
          refine lv_if_ne (tgt := 137) hx hb d_MO_rule_132 (by decide) (fun c_57 => ?_) (fun c_57 => absurd c_57 (by decide))
          refine lv_iload hx hb d_MO_rule_137 (lv_at hl 0 rfl) ?_
          refine lv_bipush (v := (-112)) hx hb d_MO_rule_139 (by decide) ?_
          refine lv_icmp_ne (tgt := 148) hx hb d_MO_rule_141 (by decide) (fun c_58 => ?_) (fun c_58 => absurd c_58 (fun q => hwd ((pv_12 wd hw13).mp q)))
          refine lv_iconst (v := 0) hx hb d_MO_rule_148 (by decide) ?_
          refine lv_istore (lv' := [(6, .int 0), (7, .int (pv (.inr wd))), (0, .ref x), (1, .int (nI L.length)), (2, .int (nI K)), (4, .int (nI vs.length)), (5, .int (nI k))]) hx hb d_MO_rule_149 hl (by decide) rfl (fun ls hl => ?_)
          refine lv_goto (tgt := 233) hx hb d_MO_rule_151 (by decide) ?_
          refine lv_iinc (v := nI (k + 1)) (lv' := [(5, .int (nI (k + 1))), (6, .int 0), (7, .int (pv (.inr wd))), (0, .ref x), (1, .int (nI L.length)), (2, .int (nI K)), (4, .int (nI vs.length))]) hx hb d_MO_rule_233 hl (k := 6) rfl (f_inc1 _) (by decide) rfl (fun ls hl => ?_)
          refine lv_aload_n hx hb d_MO_rule_236 rfl (lv_at hl 3 rfl) ?_
          have hzA := hI.2.2.2.1
          refine f_callv hI (f_runV C hI (c_MO_next l G h1 _ x e1 (nI w1) mf1 g_x tn tx ⟨a0, ⟨v_0, v_1⟩, g_a0, btn, btx⟩ v_35 v_36 be1) gm_MO_next w_940 p_MO_next w_938 g_x rfl rfl rfl hl.1 rfl (Nat.le_of_ble_eq_true rfl) ⟨Nat.le_of_ble_eq_true rfl, Nat.le_of_ble_eq_true rfl⟩ d_MO_rule_237 ⟨Nat.le_of_ble_eq_true rfl, Nat.le_of_ble_eq_true rfl⟩) (fun h9 H9 locs hp9 hX9 hz9 hI => ?_)
          obtain ⟨mf_60, g_x, hm9, v_34, v_35, v_36, hF9⟩ := hp9
          have hm1 : ∀ j, j < 34 ∨ 36 < j → mf_60 j = mf j := fun j hj => (hm9 j hj).trans (hm1 j hj)
          rw [nI_1] at v_36
          have g_a0 := hF9 _ _ _ _ g_a0 (by show ¬ _ ∈ _; decide)
          have g_a2 := hF9 _ _ _ _ g_a2 (by show ¬ _ ∈ _; decide)
          have v_0 := (hm9 0 (by decide)).trans v_0
          have v_1 := (hm9 1 (by decide)).trans v_1
          have v_2 := (hm9 2 (by decide)).trans v_2
          have hF := hF.tr (hF9.mono (fun r _ q => (by simp at q ⊢; omega : r ∈ [40, 43])))
          have hX := fX.tr (Nat.le_trans (Nat.le_of_eq hsz.symm) hzA) hX hX9
          refine lv_goto (tgt := 105) hx hb d_MO_rule_240 (by decide) ?_
          refine ih (k + 1) (by omega) vs _ _ _ rg1 (by omega) (hRP.trans (by rw [hdr, hp]; exact rp_w hW)) hew1.1 hew1.2 brg1 hrep1 hkK hvs _ mf_60 _ _ g_x g_a0 g_a2 v_0 v_1 v_2 v_34 v_35 v_36 hm1 hF hX hI ls ?_
          exact lv_sub hl [3, 4, 5, 6, 0, 1] rfl
        · skip
          refine lv_if_ne (tgt := 137) hx hb d_MO_rule_132 (by decide) (fun c_61 => absurd (by decide) c_61) (fun c_61 => ?_)
          refine lv_iconst (v := 0) hx hb d_MO_rule_135 (by decide) ?_
          exact f_zret C hr rfl hI ⟨false, b1, e1, w1, (K, vs), rg1, mf1, rule1_go (q := (false, b1, e1, w1, vs)) hKd hno (hRP.trans (by rw [hdr, hp]; exact rp_wn hW)), rfl, g_x, hm1, v_34, v_35, v_36, bb1, be1, ⟨a2, v_2, g_a2, brg1⟩, (fun q => by cases q), hF⟩ hX (Nat.le_refl _) (Nat.le_refl _) d_MO_rule_136
  have J27 : ∀ K : Nat, kd tx b e0 = K → K ≤ 6 → ∀ (k i : Nat), i + k = L.length → ∀ t : Int32, ((t = 1 ∧ tw rg K i) ∨ (t = 0 ∧ ¬ tw rg K i)) → ∀ (H : Heap) (locs : List Loc), fI G.1 g_cl (fA h sz) s.heap h H locs → ∀ ls : Array Slot, lv_has ls 10 [(0, .ref x), (1, .int (nI L.length)), (2, .int (nI K)), (3, .int t), (4, .int (nI i))] → W p l e { frames := 7, cells := 0, slots := 0, locals := 152 } s m ([.ref x, .int (nI L.length)] : List Value).toArray below meth c H locs 0 0 (MQ below (cQi G h sz (fun r h' => ∃ (ok : Bool) (b2 e2 w2 : Nat) (rl : rlT) (rg2 : Nat → Nat) (mf' : Nat → Value), rule1 tx tn L b e0 w0 = (ok, b2, e2, w2, rl) ∧ r = (if ok = true then 1 else 0) ∧ h' x = some (40, 0, .inr (8, mo mf')) ∧ (∀ j, j < 34 ∨ 36 < j → mf' j = mf j) ∧ mf' 34 = .int (nI b2) ∧ mf' 35 = .int (nI e2) ∧ mf' 36 = .int (nI w2) ∧ b2 ≤ e2 ∧ e2 ≤ tn ∧ mRd G h' mf' rg2 ∧ (ok = true → rep5 rg2 (L ++ [rl])) ∧ fF (inR [40, 43]) h h')) ([.ref x, .int (nI L.length)] : List Value).toArray s 0 0 (fA h sz)) (F0 m 27 ls []) := by
    intro K hKd hK6 k
    induction k with
    | zero =>
      intro i hi t ht H locs hI ls hl
      have hz7 := hI.2.2.2.1
      have hi2 : L.length = i := by omega
      rw [← hi2] at hl ht
      rcases ht with ⟨rfl, ht⟩ | ⟨rfl, ht⟩
      · skip
        refine lv_iload hx hb d_MO_rule_27 (lv_at hl 4 rfl) ?_
        refine lv_iload_n hx hb d_MO_rule_29 rfl (lv_at hl 1 rfl) ?_
        refine lv_icmp_ge (tgt := 65) hx hb d_MO_rule_30 (by decide) (fun c_62 => ?_) (fun c_62 => absurd (l_rfI _) c_62)
        refine lv_iload_n hx hb d_MO_rule_65 rfl (lv_at hl 2 rfl) ?_
        refine lv_bipush (v := 6) hx hb d_MO_rule_66 (by decide) ?_
        refine lv_icmp_eq (tgt := 81) hx hb d_MO_rule_68 (by decide) (fun c_63 => ?_) (fun c_63 => ?_)
        · have c_63 : K = 6 := (n_eq (a := K) (b := 6) (by omega) (by omega)).mp c_63
          refine lv_iconst (v := 0) hx hb d_MO_rule_81 (by decide) ?_
          exact f_zret C hr rfl hI ⟨false, b, e0, w0, (0, []), rg, mf, rule1_no (by rw [hKd]; exact Or.inl c_63), rfl, g_x, hm1, v_34, v_35, v_36, bb, be, ⟨a2, v_2, g_a2, brg⟩, (fun q => by cases q), hF⟩ hX (Nat.le_refl _) (Nat.le_refl _) d_MO_rule_82
        · have c_63 : ¬ K = 6 := fun q => c_63 ((n_eq (a := K) (b := 6) (by omega) (by omega)).mpr q)
          refine lv_iload_n hx hb d_MO_rule_71 rfl (lv_at hl 1 rfl) ?_
          refine lv_bipush (v := 40) hx hb d_MO_rule_72 (by decide) ?_
          refine lv_icmp_eq (tgt := 81) hx hb d_MO_rule_74 (by decide) (fun c_64 => ?_) (fun c_64 => ?_)
          · have c_64 : L.length = 40 := (n_eq (a := L.length) (b := 40) (by omega) (by omega)).mp c_64
            refine lv_iconst (v := 0) hx hb d_MO_rule_81 (by decide) ?_
            exact f_zret C hr rfl hI ⟨false, b, e0, w0, (0, []), rg, mf, rule1_no (by rw [hKd]; exact Or.inr (Or.inl c_64)), rfl, g_x, hm1, v_34, v_35, v_36, bb, be, ⟨a2, v_2, g_a2, brg⟩, (fun q => by cases q), hF⟩ hX (Nat.le_refl _) (Nat.le_refl _) d_MO_rule_82
          · have c_64 : ¬ L.length = 40 := fun q => c_64 ((n_eq (a := L.length) (b := 40) (by omega) (by omega)).mpr q)
            refine lv_iload_n hx hb d_MO_rule_77 rfl (lv_at hl 3 rfl) ?_
            refine lv_if_eq (tgt := 83) hx hb d_MO_rule_78 (by decide) (fun c_65 => absurd c_65 (by decide)) (fun c_65 => ?_)
            refine lv_iconst (v := 0) hx hb d_MO_rule_81 (by decide) ?_
            exact f_zret C hr rfl hI ⟨false, b, e0, w0, (0, []), rg, mf, rule1_no (by rw [hKd]; exact Or.inr (Or.inr ((tw_L hrep).mp ht))), rfl, g_x, hm1, v_34, v_35, v_36, bb, be, ⟨a2, v_2, g_a2, brg⟩, (fun q => by cases q), hF⟩ hX (Nat.le_refl _) (Nat.le_refl _) d_MO_rule_82
      · skip
        refine lv_iload hx hb d_MO_rule_27 (lv_at hl 4 rfl) ?_
        refine lv_iload_n hx hb d_MO_rule_29 rfl (lv_at hl 1 rfl) ?_
        refine lv_icmp_ge (tgt := 65) hx hb d_MO_rule_30 (by decide) (fun c_66 => ?_) (fun c_66 => absurd (l_rfI _) c_66)
        refine lv_iload_n hx hb d_MO_rule_65 rfl (lv_at hl 2 rfl) ?_
        refine lv_bipush (v := 6) hx hb d_MO_rule_66 (by decide) ?_
        refine lv_icmp_eq (tgt := 81) hx hb d_MO_rule_68 (by decide) (fun c_67 => ?_) (fun c_67 => ?_)
        · have c_67 : K = 6 := (n_eq (a := K) (b := 6) (by omega) (by omega)).mp c_67
          refine lv_iconst (v := 0) hx hb d_MO_rule_81 (by decide) ?_
          exact f_zret C hr rfl hI ⟨false, b, e0, w0, (0, []), rg, mf, rule1_no (by rw [hKd]; exact Or.inl c_67), rfl, g_x, hm1, v_34, v_35, v_36, bb, be, ⟨a2, v_2, g_a2, brg⟩, (fun q => by cases q), hF⟩ hX (Nat.le_refl _) (Nat.le_refl _) d_MO_rule_82
        · have c_67 : ¬ K = 6 := fun q => c_67 ((n_eq (a := K) (b := 6) (by omega) (by omega)).mpr q)
          refine lv_iload_n hx hb d_MO_rule_71 rfl (lv_at hl 1 rfl) ?_
          refine lv_bipush (v := 40) hx hb d_MO_rule_72 (by decide) ?_
          refine lv_icmp_eq (tgt := 81) hx hb d_MO_rule_74 (by decide) (fun c_68 => ?_) (fun c_68 => ?_)
          · have c_68 : L.length = 40 := (n_eq (a := L.length) (b := 40) (by omega) (by omega)).mp c_68
            refine lv_iconst (v := 0) hx hb d_MO_rule_81 (by decide) ?_
            exact f_zret C hr rfl hI ⟨false, b, e0, w0, (0, []), rg, mf, rule1_no (by rw [hKd]; exact Or.inr (Or.inl c_68)), rfl, g_x, hm1, v_34, v_35, v_36, bb, be, ⟨a2, v_2, g_a2, brg⟩, (fun q => by cases q), hF⟩ hX (Nat.le_refl _) (Nat.le_refl _) d_MO_rule_82
          · have c_68 : ¬ L.length = 40 := fun q => c_68 ((n_eq (a := L.length) (b := 40) (by omega) (by omega)).mpr q)
            refine lv_iload_n hx hb d_MO_rule_77 rfl (lv_at hl 3 rfl) ?_
            refine lv_if_eq (tgt := 83) hx hb d_MO_rule_78 (by decide) (fun c_69 => ?_) (fun c_69 => absurd (by decide) c_69)
            refine lv_aload_n hx hb d_MO_rule_83 rfl (lv_at hl 0 rfl) ?_
            refine f_get (C := "DutyRulesModel") (T := T_MO) (N := 40) hx hb (fun w q => hT w (s_MO w q)) hown hK hI g_x rfl 2 (by decide) (hT _ w_811) (fun _ q => q) (mo_get (by decide) v_2) d_MO_rule_84 ?_
            refine lv_iconst (v := 5) hx hb d_MO_rule_87 (by decide) ?_
            refine lv_iload_n hx hb d_MO_rule_88 rfl (lv_at hl 1 rfl) ?_
            refine lv_imul hx hb d_MO_rule_89 ?_
            refine f_asi (pk_mul 5 L.length) ?_
            refine lv_iload_n hx hb d_MO_rule_90 rfl (lv_at hl 2 rfl) ?_
            refine f_iastn (k := (5 * L.length)) (f' := (fun i => nI (va_up rg (5 * L.length) K i))) hx hb hI g_a2 (by decide) (fT.ofK hK (t0 := 0) rfl) (by omega) (by omega) (up_i rg (5 * L.length) K) d_MO_rule_91 (fun H locs hI => ?_)
            generalize eh_70 : fU h a2 (43, 0, .inl ((G.2.1 0), 200, .inl (fun i => nI (va_up rg (5 * L.length) K i)))) = h_70 at hI
            have hX := hX.set (e := .inl ((G.2.1 0), 200, .inl (fun i => nI (va_up rg (5 * L.length) K i)))) g_a2 (by decide); rw [eh_70] at hX
            have hF := hF.set (e := .inl ((G.2.1 0), 200, .inl (fun i => nI (va_up rg (5 * L.length) K i)))) g_a2 (by decide); rw [eh_70] at hF
            have g_a0 : h_70 a0 = some (41, 0, .inl ((G.2.1 0), 2000, .inl (fun i => nI (tx i)))) := (congrFun eh_70 a0).symm.trans (fU_keep g_a0 (f_neR g_a0 g_a2 (by decide)))
            have g_x : h_70 x = some (40, 0, .inr (8, mo mf)) := (congrFun eh_70 x).symm.trans (fU_keep g_x (f_neR g_x g_a2 (by decide)))
            have g_a2 : h_70 a2 = some (43, 0, .inl ((G.2.1 0), 200, .inl (fun i => nI (va_up rg (5 * L.length) K i)))) := (congrFun eh_70 a2).symm.trans (fU_self _ _ _)
            refine lv_iconst (v := 0) hx hb d_MO_rule_92 (by decide) ?_
            refine lv_istore (lv' := [(4, .int 0), (0, .ref x), (1, .int (nI L.length)), (2, .int (nI K)), (3, .int 0)]) hx hb d_MO_rule_93 hl (by decide) rfl (fun ls hl => ?_)
            refine lv_iconst (v := 0) hx hb d_MO_rule_95 (by decide) ?_
            refine lv_istore (lv' := [(5, .int 0), (4, .int 0), (0, .ref x), (1, .int (nI L.length)), (2, .int (nI K)), (3, .int 0)]) hx hb d_MO_rule_96 hl (by decide) rfl (fun ls hl => ?_)
            refine lv_iconst (v := 0) hx hb d_MO_rule_98 (by decide) ?_
            refine lv_istore (lv' := [(6, .int 0), (5, .int 0), (4, .int 0), (0, .ref x), (1, .int (nI L.length)), (2, .int (nI K)), (3, .int 0)]) hx hb d_MO_rule_99 hl (by decide) rfl (fun ls hl => ?_)
            refine lv_aload_n hx hb d_MO_rule_101 rfl (lv_at hl 3 rfl) ?_
            have hzA := hI.2.2.2.1
            refine f_callv hI (f_runV C hI (c_MO_next l G h_70 _ x e0 (nI w0) mf g_x tn tx ⟨a0, ⟨v_0, v_1⟩, g_a0, btn, btx⟩ v_35 v_36 be) gm_MO_next w_940 p_MO_next w_938 g_x rfl rfl rfl hl.1 rfl (Nat.le_of_ble_eq_true rfl) ⟨Nat.le_of_ble_eq_true rfl, Nat.le_of_ble_eq_true rfl⟩ d_MO_rule_102 ⟨Nat.le_of_ble_eq_true rfl, Nat.le_of_ble_eq_true rfl⟩) (fun h9 H9 locs hp9 hX9 hz9 hI => ?_)
            obtain ⟨mf_72, g_x, hm9, v_34, v_35, v_36, hF9⟩ := hp9
            have hm1 : ∀ j, j < 34 ∨ 36 < j → mf_72 j = mf j := fun j hj => (hm9 j hj).trans (hm1 j hj)
            rw [nI_1] at v_36
            have g_a0 := hF9 _ _ _ _ g_a0 (by show ¬ _ ∈ _; decide)
            have g_a2 := hF9 _ _ _ _ g_a2 (by show ¬ _ ∈ _; decide)
            have v_0 := (hm9 0 (by decide)).trans v_0
            have v_1 := (hm9 1 (by decide)).trans v_1
            have v_2 := (hm9 2 (by decide)).trans v_2
            have hF := hF.tr (hF9.mono (fun r _ q => (by simp at q ⊢; omega : r ∈ [40, 43])))
            have hX := fX.tr (Nat.le_trans (Nat.le_of_eq hsz.symm) hzA) hX hX9
            have hno : ¬ r1no K L := by
              rintro (q | q | q)
              · exact c_67 q
              · exact c_68 q
              · exact ht ((tw_L hrep).mpr q)
            have hpo := plg_ok K (by omega)
            refine J105 K hKd (by omega) hno (plL K - 1) 0 (by omega) [] _ _ _ (va_up rg (5 * L.length) K) (by rw [hpo.2.1]; rfl) rfl hew.1 hew.2 (up_le brg (by omega)) (rep5_up hrep (Nat.le_refl _)) (va_up_self _ _ _) (fun i hi => absurd hi (Nat.not_lt_zero i)) _ mf_72 _ _ g_x g_a0 g_a2 v_0 v_1 v_2 v_34 v_35 v_36 hm1 hF hX hI ls ?_
            exact lv_sub hl [3, 4, 5, 2, 1, 0] rfl
    | succ k ih =>
      intro i hi t ht H locs hI ls hl
      have ih : ∀ i : Nat, i + k = L.length → ∀ t : Int32, ((t = 1 ∧ tw rg K i) ∨ (t = 0 ∧ ¬ tw rg K i)) → ∀ (H : Heap) (locs : List Loc), fI G.1 g_cl (fA h sz) s.heap h H locs → ∀ ls : Array Slot, lv_has ls 10 [(0, .ref x), (1, .int (nI L.length)), (2, .int (nI K)), (3, .int t), (4, .int (nI i))] → W p l e { frames := 7, cells := 0, slots := 0, locals := 152 } s m ([.ref x, .int (nI L.length)] : List Value).toArray below meth c H locs 0 0 (MQ below (cQi G h sz (fun r h' => ∃ (ok : Bool) (b2 e2 w2 : Nat) (rl : rlT) (rg2 : Nat → Nat) (mf' : Nat → Value), rule1 tx tn L b e0 w0 = (ok, b2, e2, w2, rl) ∧ r = (if ok = true then 1 else 0) ∧ h' x = some (40, 0, .inr (8, mo mf')) ∧ (∀ j, j < 34 ∨ 36 < j → mf' j = mf j) ∧ mf' 34 = .int (nI b2) ∧ mf' 35 = .int (nI e2) ∧ mf' 36 = .int (nI w2) ∧ b2 ≤ e2 ∧ e2 ≤ tn ∧ mRd G h' mf' rg2 ∧ (ok = true → rep5 rg2 (L ++ [rl])) ∧ fF (inR [40, 43]) h h')) ([.ref x, .int (nI L.length)] : List Value).toArray s 0 0 (fA h sz)) (F0 m 27 ls []) := ih
      rcases ht with ⟨rfl, ht⟩ | ⟨rfl, ht⟩
      · skip
        refine lv_iload hx hb d_MO_rule_27 (lv_at hl 4 rfl) ?_
        refine lv_iload_n hx hb d_MO_rule_29 rfl (lv_at hl 1 rfl) ?_
        refine lv_icmp_ge (tgt := 65) hx hb d_MO_rule_30 (by decide) (fun c_73 => absurd c_73 (fun q => absurd ((n_le (a := L.length) (b := i) (by omega) (by omega)).mp q) (by omega))) (fun c_73 => ?_)
        refine lv_iload_n hx hb d_MO_rule_33 rfl (lv_at hl 3 rfl) ?_
        refine lv_aload_n hx hb d_MO_rule_34 rfl (lv_at hl 0 rfl) ?_
        refine f_get (C := "DutyRulesModel") (T := T_MO) (N := 40) hx hb (fun w q => hT w (s_MO w q)) hown hK hI g_x rfl 2 (by decide) (hT _ w_811) (fun _ q => q) (mo_get (by decide) v_2) d_MO_rule_35 ?_
        refine lv_iconst (v := 5) hx hb d_MO_rule_38 (by decide) ?_
        refine lv_iload hx hb d_MO_rule_39 (lv_at hl 4 rfl) ?_
        refine lv_imul hx hb d_MO_rule_41 ?_
        refine f_asi (pk_mul 5 i) ?_
        refine f_ialdn (k := (5 * i)) (v := (nI (rg (5 * i)))) hx hb hI g_a2 (fT.ofK hK (t0 := 0) rfl) (by omega) (by omega) rfl d_MO_rule_42 ?_
        refine lv_iload_n hx hb d_MO_rule_43 rfl (lv_at hl 2 rfl) ?_
        refine lv_icmp_ne (tgt := 56) hx hb d_MO_rule_44 (by decide) (fun c_74 => ?_) (fun c_74 => ?_)
        · have c_74 : ¬ (rg (5 * i)) = K := fun q => c_74 ((n_eq (a := (rg (5 * i))) (b := K) (by have := brg (5 * i); omega) (by omega)).mpr q)
          refine lv_iconst (v := 0) hx hb d_MO_rule_56 (by decide) ?_
          refine lv_ior hx hb d_MO_rule_57 ?_
          refine lv_istore_n (lv' := [(3, .int (1 ||| 0)), (0, .ref x), (1, .int (nI L.length)), (2, .int (nI K)), (4, .int (nI i))]) hx hb d_MO_rule_58 rfl hl (by decide) rfl (fun ls hl => ?_)
          refine lv_iinc (v := nI (i + 1)) (lv' := [(4, .int (nI (i + 1))), (3, .int (1 ||| 0)), (0, .ref x), (1, .int (nI L.length)), (2, .int (nI K))]) hx hb d_MO_rule_59 hl (k := 4) rfl (f_inc1 _) (by decide) rfl (fun ls hl => ?_)
          refine lv_goto (tgt := 27) hx hb d_MO_rule_62 (by decide) ?_
          refine ih (i + 1) (by omega) (1 ||| 0) (Or.inl ⟨by decide, tw_m ht⟩) _ _ hI ls ?_
          exact lv_sub hl [2, 3, 4, 1, 0] rfl
        · have c_74 : (rg (5 * i)) = K := (n_eq (a := (rg (5 * i))) (b := K) (by have := brg (5 * i); omega) (by omega)).mp c_74
          refine lv_iload_n hx hb d_MO_rule_47 rfl (lv_at hl 2 rfl) ?_
          refine lv_iconst (v := 4) hx hb d_MO_rule_48 (by decide) ?_
          refine lv_icmp_lt (tgt := 56) hx hb d_MO_rule_49 (by decide) (fun c_75 => ?_) (fun c_75 => ?_)
          · have c_75 : K < 4 := (n_lt (a := K) (b := 4) (by omega) (by omega)).mp c_75
            refine lv_iconst (v := 0) hx hb d_MO_rule_56 (by decide) ?_
            refine lv_ior hx hb d_MO_rule_57 ?_
            refine lv_istore_n (lv' := [(3, .int (1 ||| 0)), (0, .ref x), (1, .int (nI L.length)), (2, .int (nI K)), (4, .int (nI i))]) hx hb d_MO_rule_58 rfl hl (by decide) rfl (fun ls hl => ?_)
            refine lv_iinc (v := nI (i + 1)) (lv' := [(4, .int (nI (i + 1))), (3, .int (1 ||| 0)), (0, .ref x), (1, .int (nI L.length)), (2, .int (nI K))]) hx hb d_MO_rule_59 hl (k := 4) rfl (f_inc1 _) (by decide) rfl (fun ls hl => ?_)
            refine lv_goto (tgt := 27) hx hb d_MO_rule_62 (by decide) ?_
            refine ih (i + 1) (by omega) (1 ||| 0) (Or.inl ⟨by decide, tw_m ht⟩) _ _ hI ls ?_
            exact lv_sub hl [2, 3, 4, 1, 0] rfl
          · have c_75 : ¬ K < 4 := fun q => c_75 ((n_lt (a := K) (b := 4) (by omega) (by omega)).mpr q)
            refine lv_iconst (v := 1) hx hb d_MO_rule_52 (by decide) ?_
            refine lv_goto (tgt := 57) hx hb d_MO_rule_53 (by decide) ?_
            refine lv_ior hx hb d_MO_rule_57 ?_
            refine lv_istore_n (lv' := [(3, .int (1 ||| 1)), (0, .ref x), (1, .int (nI L.length)), (2, .int (nI K)), (4, .int (nI i))]) hx hb d_MO_rule_58 rfl hl (by decide) rfl (fun ls hl => ?_)
            refine lv_iinc (v := nI (i + 1)) (lv' := [(4, .int (nI (i + 1))), (3, .int (1 ||| 1)), (0, .ref x), (1, .int (nI L.length)), (2, .int (nI K))]) hx hb d_MO_rule_59 hl (k := 4) rfl (f_inc1 _) (by decide) rfl (fun ls hl => ?_)
            refine lv_goto (tgt := 27) hx hb d_MO_rule_62 (by decide) ?_
            refine ih (i + 1) (by omega) (1 ||| 1) (Or.inl ⟨by decide, tw_m ht⟩) _ _ hI ls ?_
            exact lv_sub hl [2, 3, 4, 1, 0] rfl
      · skip
        refine lv_iload hx hb d_MO_rule_27 (lv_at hl 4 rfl) ?_
        refine lv_iload_n hx hb d_MO_rule_29 rfl (lv_at hl 1 rfl) ?_
        refine lv_icmp_ge (tgt := 65) hx hb d_MO_rule_30 (by decide) (fun c_76 => absurd c_76 (fun q => absurd ((n_le (a := L.length) (b := i) (by omega) (by omega)).mp q) (by omega))) (fun c_76 => ?_)
        refine lv_iload_n hx hb d_MO_rule_33 rfl (lv_at hl 3 rfl) ?_
        refine lv_aload_n hx hb d_MO_rule_34 rfl (lv_at hl 0 rfl) ?_
        refine f_get (C := "DutyRulesModel") (T := T_MO) (N := 40) hx hb (fun w q => hT w (s_MO w q)) hown hK hI g_x rfl 2 (by decide) (hT _ w_811) (fun _ q => q) (mo_get (by decide) v_2) d_MO_rule_35 ?_
        refine lv_iconst (v := 5) hx hb d_MO_rule_38 (by decide) ?_
        refine lv_iload hx hb d_MO_rule_39 (lv_at hl 4 rfl) ?_
        refine lv_imul hx hb d_MO_rule_41 ?_
        refine f_asi (pk_mul 5 i) ?_
        refine f_ialdn (k := (5 * i)) (v := (nI (rg (5 * i)))) hx hb hI g_a2 (fT.ofK hK (t0 := 0) rfl) (by omega) (by omega) rfl d_MO_rule_42 ?_
        refine lv_iload_n hx hb d_MO_rule_43 rfl (lv_at hl 2 rfl) ?_
        refine lv_icmp_ne (tgt := 56) hx hb d_MO_rule_44 (by decide) (fun c_77 => ?_) (fun c_77 => ?_)
        · have c_77 : ¬ (rg (5 * i)) = K := fun q => c_77 ((n_eq (a := (rg (5 * i))) (b := K) (by have := brg (5 * i); omega) (by omega)).mpr q)
          refine lv_iconst (v := 0) hx hb d_MO_rule_56 (by decide) ?_
          refine lv_ior hx hb d_MO_rule_57 ?_
          refine lv_istore_n (lv' := [(3, .int (0 ||| 0)), (0, .ref x), (1, .int (nI L.length)), (2, .int (nI K)), (4, .int (nI i))]) hx hb d_MO_rule_58 rfl hl (by decide) rfl (fun ls hl => ?_)
          refine lv_iinc (v := nI (i + 1)) (lv' := [(4, .int (nI (i + 1))), (3, .int (0 ||| 0)), (0, .ref x), (1, .int (nI L.length)), (2, .int (nI K))]) hx hb d_MO_rule_59 hl (k := 4) rfl (f_inc1 _) (by decide) rfl (fun ls hl => ?_)
          refine lv_goto (tgt := 27) hx hb d_MO_rule_62 (by decide) ?_
          refine ih (i + 1) (by omega) (0 ||| 0) (Or.inr ⟨by decide, tw_s ht (fun q => by have q1 := q.1; have q2 := q.2; exact c_77 q2)⟩) _ _ hI ls ?_
          exact lv_sub hl [2, 3, 4, 1, 0] rfl
        · have c_77 : (rg (5 * i)) = K := (n_eq (a := (rg (5 * i))) (b := K) (by have := brg (5 * i); omega) (by omega)).mp c_77
          refine lv_iload_n hx hb d_MO_rule_47 rfl (lv_at hl 2 rfl) ?_
          refine lv_iconst (v := 4) hx hb d_MO_rule_48 (by decide) ?_
          refine lv_icmp_lt (tgt := 56) hx hb d_MO_rule_49 (by decide) (fun c_78 => ?_) (fun c_78 => ?_)
          · have c_78 : K < 4 := (n_lt (a := K) (b := 4) (by omega) (by omega)).mp c_78
            refine lv_iconst (v := 0) hx hb d_MO_rule_56 (by decide) ?_
            refine lv_ior hx hb d_MO_rule_57 ?_
            refine lv_istore_n (lv' := [(3, .int (0 ||| 0)), (0, .ref x), (1, .int (nI L.length)), (2, .int (nI K)), (4, .int (nI i))]) hx hb d_MO_rule_58 rfl hl (by decide) rfl (fun ls hl => ?_)
            refine lv_iinc (v := nI (i + 1)) (lv' := [(4, .int (nI (i + 1))), (3, .int (0 ||| 0)), (0, .ref x), (1, .int (nI L.length)), (2, .int (nI K))]) hx hb d_MO_rule_59 hl (k := 4) rfl (f_inc1 _) (by decide) rfl (fun ls hl => ?_)
            refine lv_goto (tgt := 27) hx hb d_MO_rule_62 (by decide) ?_
            refine ih (i + 1) (by omega) (0 ||| 0) (Or.inr ⟨by decide, tw_s ht (fun q => by have q1 := q.1; have q2 := q.2; omega)⟩) _ _ hI ls ?_
            exact lv_sub hl [2, 3, 4, 1, 0] rfl
          · have c_78 : ¬ K < 4 := fun q => c_78 ((n_lt (a := K) (b := 4) (by omega) (by omega)).mpr q)
            refine lv_iconst (v := 1) hx hb d_MO_rule_52 (by decide) ?_
            refine lv_goto (tgt := 57) hx hb d_MO_rule_53 (by decide) ?_
            refine lv_ior hx hb d_MO_rule_57 ?_
            refine lv_istore_n (lv' := [(3, .int (0 ||| 1)), (0, .ref x), (1, .int (nI L.length)), (2, .int (nI K)), (4, .int (nI i))]) hx hb d_MO_rule_58 rfl hl (by decide) rfl (fun ls hl => ?_)
            refine lv_iinc (v := nI (i + 1)) (lv' := [(4, .int (nI (i + 1))), (3, .int (0 ||| 1)), (0, .ref x), (1, .int (nI L.length)), (2, .int (nI K))]) hx hb d_MO_rule_59 hl (k := 4) rfl (f_inc1 _) (by decide) rfl (fun ls hl => ?_)
            refine lv_goto (tgt := 27) hx hb d_MO_rule_62 (by decide) ?_
            refine ih (i + 1) (by omega) (0 ||| 1) (Or.inl ⟨by decide, ⟨by omega, i, by omega, c_77⟩⟩) _ _ hI ls ?_
            exact lv_sub hl [2, 3, 4, 1, 0] rfl
  have J2 : ∀ (k i : Nat), i + k = 6 → kd tx b e0 = fi (fun w => @decide (eqW tx b e0 w) (Classical.propDecidable _)) i k → ∀ (H : Heap) (locs : List Loc), fI G.1 g_cl (fA h sz) s.heap h H locs → ∀ ls : Array Slot, lv_has ls 10 [(0, .ref x), (1, .int (nI L.length)), (2, .int (nI i))] → W p l e { frames := 7, cells := 0, slots := 0, locals := 152 } s m ([.ref x, .int (nI L.length)] : List Value).toArray below meth c H locs 0 0 (MQ below (cQi G h sz (fun r h' => ∃ (ok : Bool) (b2 e2 w2 : Nat) (rl : rlT) (rg2 : Nat → Nat) (mf' : Nat → Value), rule1 tx tn L b e0 w0 = (ok, b2, e2, w2, rl) ∧ r = (if ok = true then 1 else 0) ∧ h' x = some (40, 0, .inr (8, mo mf')) ∧ (∀ j, j < 34 ∨ 36 < j → mf' j = mf j) ∧ mf' 34 = .int (nI b2) ∧ mf' 35 = .int (nI e2) ∧ mf' 36 = .int (nI w2) ∧ b2 ≤ e2 ∧ e2 ≤ tn ∧ mRd G h' mf' rg2 ∧ (ok = true → rep5 rg2 (L ++ [rl])) ∧ fF (inR [40, 43]) h h')) ([.ref x, .int (nI L.length)] : List Value).toArray s 0 0 (fA h sz)) (F0 m 2 ls []) := by
    intro k
    induction k with
    | zero =>
      intro i hi hk H locs hI ls hl
      refine lv_iload_n hx hb d_MO_rule_2 rfl (lv_at hl 2 rfl) ?_
      refine lv_bipush (v := 6) hx hb d_MO_rule_3 (by decide) ?_
      refine lv_icmp_ge (tgt := 22) hx hb d_MO_rule_5 (by decide) (fun c_79 => ?_) (fun c_79 => absurd ((n_le (a := 6) (b := i) (by omega) (by omega)).mpr (by omega)) c_79)
      refine lv_iconst (v := 0) hx hb d_MO_rule_22 (by decide) ?_
      refine lv_istore_n (lv' := [(3, .int 0), (0, .ref x), (1, .int (nI L.length)), (2, .int (nI i))]) hx hb d_MO_rule_23 rfl hl (by decide) rfl (fun ls hl => ?_)
      refine lv_iconst (v := 0) hx hb d_MO_rule_24 (by decide) ?_
      refine lv_istore (lv' := [(4, .int 0), (3, .int 0), (0, .ref x), (1, .int (nI L.length)), (2, .int (nI i))]) hx hb d_MO_rule_25 hl (by decide) rfl (fun ls hl => ?_)
      refine J27 i hk (by omega) L.length 0 (by omega) 0 (Or.inr ⟨rfl, fun q => absurd q.2.choose_spec.1 (Nat.not_lt_zero _)⟩) _ _ hI ls ?_
      exact lv_sub hl [2, 3, 4, 1, 0] rfl
    | succ k ih =>
      intro i hi hk H locs hI ls hl
      have ih : ∀ i : Nat, i + k = 6 → kd tx b e0 = fi (fun w => @decide (eqW tx b e0 w) (Classical.propDecidable _)) i k → ∀ (H : Heap) (locs : List Loc), fI G.1 g_cl (fA h sz) s.heap h H locs → ∀ ls : Array Slot, lv_has ls 10 [(0, .ref x), (1, .int (nI L.length)), (2, .int (nI i))] → W p l e { frames := 7, cells := 0, slots := 0, locals := 152 } s m ([.ref x, .int (nI L.length)] : List Value).toArray below meth c H locs 0 0 (MQ below (cQi G h sz (fun r h' => ∃ (ok : Bool) (b2 e2 w2 : Nat) (rl : rlT) (rg2 : Nat → Nat) (mf' : Nat → Value), rule1 tx tn L b e0 w0 = (ok, b2, e2, w2, rl) ∧ r = (if ok = true then 1 else 0) ∧ h' x = some (40, 0, .inr (8, mo mf')) ∧ (∀ j, j < 34 ∨ 36 < j → mf' j = mf j) ∧ mf' 34 = .int (nI b2) ∧ mf' 35 = .int (nI e2) ∧ mf' 36 = .int (nI w2) ∧ b2 ≤ e2 ∧ e2 ≤ tn ∧ mRd G h' mf' rg2 ∧ (ok = true → rep5 rg2 (L ++ [rl])) ∧ fF (inR [40, 43]) h h')) ([.ref x, .int (nI L.length)] : List Value).toArray s 0 0 (fA h sz)) (F0 m 2 ls []) := ih
      refine lv_iload_n hx hb d_MO_rule_2 rfl (lv_at hl 2 rfl) ?_
      refine lv_bipush (v := 6) hx hb d_MO_rule_3 (by decide) ?_
      refine lv_icmp_ge (tgt := 22) hx hb d_MO_rule_5 (by decide) (fun c_80 => absurd c_80 (fun q => absurd ((n_le (a := 6) (b := i) (by omega) (by omega)).mp q) (by omega))) (fun c_80 => ?_)
      refine lv_aload_n hx hb d_MO_rule_8 rfl (lv_at hl 0 rfl) ?_
      refine lv_iload_n hx hb d_MO_rule_9 rfl (lv_at hl 2 rfl) ?_
      refine f_calli hI (f_runV C hI (c_MO_is l G h _ x b e0 i mf g_x tn tx ⟨a0, ⟨v_0, v_1⟩, g_a0, btn, btx⟩ hS v_34 v_35 bb be (by omega)) gm_MO_is w_951 p_MO_is w_949 g_x rfl rfl rfl hl.1 rfl (Nat.le_of_ble_eq_true rfl) ⟨Nat.le_of_ble_eq_true rfl, Nat.le_of_ble_eq_true rfl⟩ d_MO_rule_10 ⟨Nat.le_of_ble_eq_true rfl, Nat.le_of_ble_eq_true rfl⟩) (fun r_81 h9 H9 locs hp9 hX9 hz9 hI => ?_)
      obtain ⟨hq9, e9⟩ := hp9
      rw [e9] at hI
      clear hX9 e9
      rcases hq9 with ⟨rfl, hW⟩ | ⟨rfl, hW⟩
      · skip
        refine lv_if_ne (tgt := 22) hx hb d_MO_rule_13 (by decide) (fun c_82 => ?_) (fun c_82 => absurd c_82 (by decide))
        refine lv_iconst (v := 0) hx hb d_MO_rule_22 (by decide) ?_
        refine lv_istore_n (lv' := [(3, .int 0), (0, .ref x), (1, .int (nI L.length)), (2, .int (nI i))]) hx hb d_MO_rule_23 rfl hl (by decide) rfl (fun ls hl => ?_)
        refine lv_iconst (v := 0) hx hb d_MO_rule_24 (by decide) ?_
        refine lv_istore (lv' := [(4, .int 0), (3, .int 0), (0, .ref x), (1, .int (nI L.length)), (2, .int (nI i))]) hx hb d_MO_rule_25 hl (by decide) rfl (fun ls hl => ?_)
        refine J27 i (hk.trans (fi_yes (@decide_eq_true _ (Classical.propDecidable _) hW))) (by omega) L.length 0 (by omega) 0 (Or.inr ⟨rfl, fun q => absurd q.2.choose_spec.1 (Nat.not_lt_zero _)⟩) _ _ hI ls ?_
        exact lv_sub hl [2, 3, 4, 1, 0] rfl
      · skip
        refine lv_if_ne (tgt := 22) hx hb d_MO_rule_13 (by decide) (fun c_83 => absurd (by decide) c_83) (fun c_83 => ?_)
        refine lv_iinc (v := nI (i + 1)) (lv' := [(2, .int (nI (i + 1))), (0, .ref x), (1, .int (nI L.length))]) hx hb d_MO_rule_16 hl (k := 2) rfl (f_inc1 _) (by decide) rfl (fun ls hl => ?_)
        refine lv_goto (tgt := 2) hx hb d_MO_rule_19 (by decide) ?_
        refine ih (i + 1) (by omega) (hk.trans (fi_no (fun q => hW (@of_decide_eq_true _ (Classical.propDecidable _) q)))) _ _ hI ls ?_
        exact lv_sub hl [1, 2, 0] rfl
  refine lv_iconst (v := 0) hx hb d_MO_rule_0 (by decide) ?_
  refine lv_istore_n (lv' := [(2, .int 0), (0, .ref x), (1, .int (nI L.length))]) hx hb d_MO_rule_1 rfl hl (by decide) rfl (fun ls hl => ?_)
  refine J2 6 0 (by omega) rfl _ _ hI ls ?_
  exact lv_sub hl [1, 2, 0] rfl
