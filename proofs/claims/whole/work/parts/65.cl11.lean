theorem gm_GR_asText : gM y_GR_asText b_GR_asText 6 (some (.object "java/lang/String")) 1 := ⟨w_496, w_18, ⟨by decide, by decide⟩, by decide +kernel⟩
set_option maxHeartbeats 4000000 in
set_option maxRecDepth 100000 in
/-- GR_asText  -/
theorem c_GR_asText (l : Launch) (G : gG) (h : fH) (sz : Nat) (R : Nat) (L : List rlT) (kf nf : Nat → Nat) (hR : rU G h 28 29 30 R L.length kf nf) (hrep : rep4 kf nf L) (hFm : fmS G h) (hD : dT G h) : cM l y_GR_asText b_GR_asText 6 (some (.object "java/lang/String")) { frames := 6, cells := 12, slots := 8300, locals := 151 } G [.ref R] h sz (cQq G h sz (fun z h' => ∃ s1, z = some s1 ∧ sT G h' 22 23 0 s1 (fun j => (ot L).getD j 0) (ot L).length ∧ fF (inR [22, 31, 32]) h h')) := by
  refine f_start (by decide) (Nat.le_of_ble_eq_true rfl) ?_
  intro p e s m below meth c ls C hr hsz hI hl
  obtain ⟨hx, hb, hml, hown, hnm, hlk, hT, hG, hZ⟩ := id C
  have hK := hG.1
  have hX : fX h sz h := fX.rf
  have hl : lv_has ls 6 [(0, .ref R)] := hl
  have hF : fF (inR [22, 31, 32]) h h := fF.rf
  obtain ⟨a1, a2, g_R, g_a1, g_a2, bcnt, bkf, bnf⟩ := id hR
  have hwfL : ∀ r ∈ L, wfR r := fun r hr => by obtain ⟨j, hj⟩ := List.mem_iff_getElem?.mp hr; exact (hrep j r hj).2.2
  have J10 : ∀ B : Nat, ∀ (d n : Nat), n + d = L.length → ∀ mm : Nat, ∀ (h1 : fH) (H : Heap) (locs : List Loc) (cs ss : Nat), rI mm (ot (L.take n)).length cs ss → h1 R = some (28, 0, .inr (6, [.int (nI L.length), .ref a1, .ref a2])) → bL G h1 31 32 B mm (ot (L.take n)) → fF (inR [22, 31, 32]) h h1 → fX h sz h1 → fI G.1 g_cl (fA h sz) s.heap h1 H locs → ∀ ls : Array Slot, lv_has ls 6 [(0, .ref R), (1, .ref B), (2, .int (nI n))] → W p l e { frames := 6, cells := 12, slots := 8300, locals := 151 } s m ([.ref R] : List Value).toArray below meth c H locs cs ss (MQ below (cQq G h sz (fun z h' => ∃ s1, z = some s1 ∧ sT G h' 22 23 0 s1 (fun j => (ot L).getD j 0) (ot L).length ∧ fF (inR [22, 31, 32]) h h')) ([.ref R] : List Value).toArray s 12 8300 (fA h sz)) (F0 m 10 ls []) := by
    intro B d
    induction d with
    | zero =>
      intro n hn mm h1 H locs cs ss hrI g_R hB hF hX hI ls hl
      have hn2 : L.take n = L := List.take_of_length_le (by omega)
      rw [hn2] at hB hrI
      have hln := ot_40 L hwfL
      have hrb := rI_b hrI (by omega)
      obtain ⟨bb0, ml0, f0, g_B, _⟩ := id hB
      refine lv_iload_n hx hb d_GR_asText_10 rfl (lv_at hl 2 rfl) ?_
      refine lv_aload_n hx hb d_GR_asText_11 rfl (lv_at hl 0 rfl) ?_
      refine f_getN (C := "DutyRules$Rules") (T := T_RU) (N := 3) hx hb (fun w q => hT w (s_RU w q)) hown hK hI g_R rfl 0 (by decide) (hG.2.1 _ w_152) (fun _ q => q) rfl d_GR_asText_12 ?_
      refine lv_icmp_ge (tgt := 102) hx hb d_GR_asText_15 (by decide) (fun c_1 => ?_) (fun c_1 => absurd ((n_le (a := L.length) (b := n) (by omega) (by omega)).mpr (by omega)) c_1)
      refine lv_aload_n hx hb d_GR_asText_102 rfl (lv_at hl 1 rfl) ?_
      have hzA := hI.2.2.2.1
      refine f_callq hI (f_runV C hI (c_SB_toString l G h1 _ B 31 32 0 mm (ot L).length 22 23 0 (fun j => (ot L).getD j 0) (by decide) (by decide) (by decide) hB (by decide) (by decide) (by decide) (by decide) (by decide)) gm_SB_toString w_307 w_308 w_541 g_B rfl rfl rfl hl.1 rfl (Nat.le_of_ble_eq_true rfl) ⟨Nat.le_of_ble_eq_true rfl, Nat.le_of_ble_eq_true rfl⟩ d_GR_asText_103 ⟨by first | exact Nat.le_of_ble_eq_true rfl | ((try dsimp only); omega), by first | exact Nat.le_of_ble_eq_true rfl | ((try dsimp only); omega)⟩) (fun r_2 h9 H9 locs hp9 hX9 hz9 hI => ?_)
      obtain ⟨s1, rfl, hs1, hF9⟩ := hp9
      have hX := fX.tr (Nat.le_trans (Nat.le_of_eq hsz.symm) hzA) hX hX9
      have hF := hF.tr (hF9.mono (fun r9 _ z => (by simp [inR] at z ⊢; omega : inR [22, 31, 32] r9 _)))
      exact f_aret (v := some s1) C hr (Or.inl ⟨_, rfl⟩) hI ⟨s1, rfl, hs1, hF⟩ hX (by (try dsimp only); omega) (by (try dsimp only); omega) d_GR_asText_106
    | succ d ih10 =>
      intro n hn
      have ih10 : ∀ n : Nat, n + d = L.length → ∀ mm : Nat, ∀ (h1 : fH) (H : Heap) (locs : List Loc) (cs ss : Nat), rI mm (ot (L.take n)).length cs ss → h1 R = some (28, 0, .inr (6, [.int (nI L.length), .ref a1, .ref a2])) → bL G h1 31 32 B mm (ot (L.take n)) → fF (inR [22, 31, 32]) h h1 → fX h sz h1 → fI G.1 g_cl (fA h sz) s.heap h1 H locs → ∀ ls : Array Slot, lv_has ls 6 [(0, .ref R), (1, .ref B), (2, .int (nI n))] → W p l e { frames := 6, cells := 12, slots := 8300, locals := 151 } s m ([.ref R] : List Value).toArray below meth c H locs cs ss (MQ below (cQq G h sz (fun z h' => ∃ s1, z = some s1 ∧ sT G h' 22 23 0 s1 (fun j => (ot L).getD j 0) (ot L).length ∧ fF (inR [22, 31, 32]) h h')) ([.ref R] : List Value).toArray s 12 8300 (fA h sz)) (F0 m 10 ls []) := ih10
      obtain ⟨⟨K, vs⟩, hr0⟩ : ∃ r, L[n]? = some r := ⟨L[n], List.getElem?_eq_getElem (by omega)⟩
      obtain ⟨hk4, hv4, hwf⟩ := hrep n _ hr0
      dsimp only at hk4 hv4
      have hK6 : K < 6 := hwf.1
      have hvn : vs.length = nv K := hwf.2.1
      have hnv := nv_le K
      have hT0 : (ot (L.take n)).length ≤ 1600 := Nat.le_trans (ot_40 _ (fun r hr => hwfL r (List.mem_of_mem_take hr))) (by rw [List.length_take]; omega)
      have hln := ln_40 hwf
      have hol := congrArg List.length (ofm_ln hwf)
      rw [List.length_append, List.length_singleton] at hol
      have hfl := fn_le K
      have J33 : ∀ (k j : Nat), j + k = fn K → ∀ (sv : Nat) (Wt : List Nat), Wt ++ ofm ((frm K).drop j) (vs.drop sv) = ot (L.take n) ++ ofm (frm K) vs → nsl ((frm K).drop j) + sv = vs.length → ∀ mm : Nat, ∀ (h1 : fH) (H : Heap) (locs : List Loc) (cs ss : Nat), rI mm Wt.length cs ss → h1 R = some (28, 0, .inr (6, [.int (nI L.length), .ref a1, .ref a2])) → bL G h1 31 32 B mm Wt → fF (inR [22, 31, 32]) h h1 → fX h sz h1 → fI G.1 g_cl (fA h sz) s.heap h1 H locs → ∀ ls : Array Slot, lv_has ls 6 [(0, .ref R), (1, .ref B), (2, .int (nI n)), (3, .ref (G.2.2.2 (fS K))), (4, .int (nI sv)), (5, .int (nI j))] → W p l e { frames := 6, cells := 12, slots := 8300, locals := 151 } s m ([.ref R] : List Value).toArray below meth c H locs cs ss (MQ below (cQq G h sz (fun z h' => ∃ s1, z = some s1 ∧ sT G h' 22 23 0 s1 (fun j => (ot L).getD j 0) (ot L).length ∧ fF (inR [22, 31, 32]) h h')) ([.ref R] : List Value).toArray s 12 8300 (fA h sz)) (F0 m 33 ls []) := by
        intro k
        induction k with
        | zero =>
          intro j hj sv Wt hW hns mm h1 H locs cs ss hrI g_R hB hF hX hI ls hl
          have hWl : Wt.length ≤ 1640 := by have q := congrArg List.length hW; rw [List.length_append, List.length_append] at q; omega
          have hrb := rI_b hrI hWl
          have hT8 := (hFm.keepX hX) K hK6
          obtain ⟨ub, uc, uf, ufs, g_u, _⟩ := id hT8
          obtain ⟨bb0, ml0, f0, g_B, _, _, _, bn0, b16, _⟩ := id hB
          have hje : (frm K).drop j = [] := List.drop_eq_nil_of_le (by show fn K ≤ j; omega)
          rw [hje, show ofm [] (vs.drop sv) = [] from rfl, List.append_nil] at hW
          refine lv_iload hx hb d_GR_asText_33 (lv_at hl 5 rfl) ?_
          refine lv_aload_n hx hb d_GR_asText_35 rfl (lv_at hl 3 rfl) ?_
          refine f_calli hI (f_runV C hI (c_ST_len l G h1 _ 0 0 (fS K) (G.2.2.2 (fS K)) (fn K) (fx K) hT8) gm_ST_length w_369 w_370 w_503 g_u rfl rfl rfl hl.1 rfl (Nat.le_of_ble_eq_true rfl) ⟨Nat.le_of_ble_eq_true rfl, Nat.le_of_ble_eq_true rfl⟩ d_GR_asText_36 ⟨by first | exact Nat.le_of_ble_eq_true rfl | ((try dsimp only); omega), by first | exact Nat.le_of_ble_eq_true rfl | ((try dsimp only); omega)⟩) (fun r_3 h8 H9 locs hp9 hX9 hz9 hI => ?_)
          obtain ⟨rfl, e9⟩ := hp9
          rw [e9] at hI
          clear hX9 e9
          refine lv_icmp_ge (tgt := 89) hx hb d_GR_asText_39 (by decide) (fun c_4 => ?_) (fun c_4 => absurd ((n_le (a := fn K) (b := j) (by omega) (by omega)).mpr (by omega)) c_4)
          refine lv_aload_n hx hb d_GR_asText_89 rfl (lv_at hl 1 rfl) ?_
          refine lv_bipush (v := 10) hx hb d_GR_asText_90 (by decide) ?_
          have hzA := hI.2.2.2.1
          have hq2 : Wt.length + 1 ≤ 2 * mm + 2 := by omega
          have hrI2 := rI_g hrI hq2
          have hgb := gcs_b mm (Wt.length + 1)
          have hrb2 := rI_b2 hrI2 (by omega)
          refine f_callq hI (f_runV C hI (c_SB_append l G h1 _ B 31 32 0 mm Wt.length 10 (fun j => Wt.getD j 0) (by decide) (by decide) (by decide) hB (by decide) (by omega)) gm_SB_append w_206 w_207 w_540 g_B rfl rfl rfl hl.1 rfl (Nat.le_of_ble_eq_true rfl) ⟨Nat.le_of_ble_eq_true rfl, Nat.le_of_ble_eq_true rfl⟩ d_GR_asText_92 ⟨by first | exact Nat.le_of_ble_eq_true rfl | ((try dsimp only); omega), by first | exact Nat.le_of_ble_eq_true rfl | ((try dsimp only); omega)⟩) (fun r_5 h9 H9 locs hp9 hX9 hz9 hI => ?_)
          obtain ⟨rfl, hB9, hF9⟩ := hp9
          have hX := fX.tr (Nat.le_trans (Nat.le_of_eq hsz.symm) hzA) hX hX9
          have g_R := hF9 _ _ _ _ g_R (by decide)
          have hF := hF.tr (hF9.mono (fun r9 _ z => (by simp [inR] at z ⊢; omega : inR [22, 31, 32] r9 _)))
          have hB := bL_c hB9
          refine lv_pop hx hb d_GR_asText_95 rfl ?_
          refine lv_iinc (v := nI (n + 1)) (lv' := [(2, .int (nI (n + 1))), (0, .ref R), (1, .ref B), (3, .ref (G.2.2.2 (fS K))), (4, .int (nI sv)), (5, .int (nI j))]) hx hb d_GR_asText_96 hl (k := 2) rfl (f_inc1 _) (by decide) rfl (fun ls hl => ?_)
          refine lv_goto (tgt := 10) hx hb d_GR_asText_99 (by decide) ?_
          have eT : Wt ++ [10] = ot (L.take (n + 1)) := by rw [ot_take hr0, hW, List.append_assoc, ofm_ln hwf]
          rw [eT] at hB
          have hrI3 : rI (gw mm (Wt.length + 1)) (ot (L.take (n + 1))).length (cs + gc mm (Wt.length + 1)) (ss + gs mm (Wt.length + 1)) := by rw [← eT, List.length_append]; exact hrI2
          refine ih10 (n + 1) (by omega) _ _ _ _ _ _ hrI3 g_R hB hF hX hI ls ?_
          exact lv_sub hl [1, 2, 0] rfl
        | succ k ih =>
          intro j hj sv Wt hW hns mm h1 H locs cs ss hrI g_R hB hF hX hI ls hl
          have ih : ∀ j : Nat, j + k = fn K → ∀ (sv : Nat) (Wt : List Nat), Wt ++ ofm ((frm K).drop j) (vs.drop sv) = ot (L.take n) ++ ofm (frm K) vs → nsl ((frm K).drop j) + sv = vs.length → ∀ mm : Nat, ∀ (h1 : fH) (H : Heap) (locs : List Loc) (cs ss : Nat), rI mm Wt.length cs ss → h1 R = some (28, 0, .inr (6, [.int (nI L.length), .ref a1, .ref a2])) → bL G h1 31 32 B mm Wt → fF (inR [22, 31, 32]) h h1 → fX h sz h1 → fI G.1 g_cl (fA h sz) s.heap h1 H locs → ∀ ls : Array Slot, lv_has ls 6 [(0, .ref R), (1, .ref B), (2, .int (nI n)), (3, .ref (G.2.2.2 (fS K))), (4, .int (nI sv)), (5, .int (nI j))] → W p l e { frames := 6, cells := 12, slots := 8300, locals := 151 } s m ([.ref R] : List Value).toArray below meth c H locs cs ss (MQ below (cQq G h sz (fun z h' => ∃ s1, z = some s1 ∧ sT G h' 22 23 0 s1 (fun j => (ot L).getD j 0) (ot L).length ∧ fF (inR [22, 31, 32]) h h')) ([.ref R] : List Value).toArray s 12 8300 (fA h sz)) (F0 m 33 ls []) := ih
          have hWl : Wt.length ≤ 1640 := by have q := congrArg List.length hW; rw [List.length_append, List.length_append] at q; omega
          have hrb := rI_b hrI hWl
          have hT8 := (hFm.keepX hX) K hK6
          obtain ⟨ub, uc, uf, ufs, g_u, _⟩ := id hT8
          obtain ⟨bb0, ml0, f0, g_B, _, _, _, bn0, b16, _⟩ := id hB
          have hdr := frm_drop (K := K) (j := j) (by omega)
          rw [hdr] at hW hns
          have hxl := fx_lt K j
          by_cases hsl : 65 ≤ fx K j ∧ fx K j ≤ 90
          · have hns2 : 1 + nsl ((frm K).drop (j + 1)) + sv = vs.length := by rw [← hns, nsl, if_pos hsl]
            have hvv := hv4 sv (by omega)
            have hvb : vs.getD sv 0 < 1000000000 := by rw [← hvv]; have := bnf (n * 4 + sv); omega
            have hd9 := (dg_pow hvb).2.2.2
            refine lv_iload hx hb d_GR_asText_33 (lv_at hl 5 rfl) ?_
            refine lv_aload_n hx hb d_GR_asText_35 rfl (lv_at hl 3 rfl) ?_
            refine f_calli hI (f_runV C hI (c_ST_len l G h1 _ 0 0 (fS K) (G.2.2.2 (fS K)) (fn K) (fx K) hT8) gm_ST_length w_369 w_370 w_503 g_u rfl rfl rfl hl.1 rfl (Nat.le_of_ble_eq_true rfl) ⟨Nat.le_of_ble_eq_true rfl, Nat.le_of_ble_eq_true rfl⟩ d_GR_asText_36 ⟨by first | exact Nat.le_of_ble_eq_true rfl | ((try dsimp only); omega), by first | exact Nat.le_of_ble_eq_true rfl | ((try dsimp only); omega)⟩) (fun r_6 h8 H9 locs hp9 hX9 hz9 hI => ?_)
            obtain ⟨rfl, e9⟩ := hp9
            rw [e9] at hI
            clear hX9 e9
            refine lv_icmp_ge (tgt := 89) hx hb d_GR_asText_39 (by decide) (fun c_7 => absurd c_7 (fun q => absurd ((n_le (a := fn K) (b := j) (by omega) (by omega)).mp q) (by omega))) (fun c_7 => ?_)
            refine lv_aload_n hx hb d_GR_asText_42 rfl (lv_at hl 3 rfl) ?_
            refine lv_iload hx hb d_GR_asText_43 (lv_at hl 5 rfl) ?_
            refine f_calli hI (f_runV C hI (c_ST_at l G h1 _ 0 0 (fS K) (G.2.2.2 (fS K)) j (fn K) (fx K) hT8 (by omega)) gm_ST_charAt w_377 w_378 w_504 g_u rfl rfl rfl hl.1 rfl (Nat.le_of_ble_eq_true rfl) ⟨Nat.le_of_ble_eq_true rfl, Nat.le_of_ble_eq_true rfl⟩ d_GR_asText_45 ⟨by first | exact Nat.le_of_ble_eq_true rfl | ((try dsimp only); omega), by first | exact Nat.le_of_ble_eq_true rfl | ((try dsimp only); omega)⟩) (fun r_8 h8 H9 locs hp9 hX9 hz9 hI => ?_)
            obtain ⟨rfl, e9⟩ := hp9
            rw [e9] at hI
            clear hX9 e9
            refine f_calli hI (f_runS C hI (c_GR_isSlot l G h1 _ (nI (fx K j))) gm_GR_isSlot w_473 w_472 rfl hl.1 rfl (Nat.le_of_ble_eq_true rfl) ⟨Nat.le_of_ble_eq_true rfl, Nat.le_of_ble_eq_true rfl⟩ d_GR_asText_48 ⟨by first | exact Nat.le_of_ble_eq_true rfl | ((try dsimp only); omega), by first | exact Nat.le_of_ble_eq_true rfl | ((try dsimp only); omega)⟩) (fun r_9 h8 H9 locs hp9 hX9 hz9 hI => ?_)
            obtain ⟨rfl, e9⟩ := hp9
            rw [e9] at hI
            clear hX9 e9
            refine f_asi ((slot_n (by omega)).trans (if_pos hsl)) ?_
            refine lv_if_eq (tgt := 72) hx hb d_GR_asText_51 (by decide) (fun c_10 => absurd c_10 (by decide)) (fun c_10 => ?_)
            refine lv_aload_n hx hb d_GR_asText_54 rfl (lv_at hl 1 rfl) ?_
            refine lv_aload_n hx hb d_GR_asText_55 rfl (lv_at hl 0 rfl) ?_
            refine lv_iload_n hx hb d_GR_asText_56 rfl (lv_at hl 2 rfl) ?_
            refine lv_iload hx hb d_GR_asText_57 (lv_at hl 4 rfl) ?_
            refine f_calli hI (f_runV C hI (c_RU_number l G h1 _ R L.length 28 29 30 kf nf n sv (hR.keepF hF (by decide) (by decide) (by decide)) (by omega) (by omega)) gm_RU_number w_490 w_491 w_505 g_R rfl rfl rfl hl.1 rfl (Nat.le_of_ble_eq_true rfl) ⟨Nat.le_of_ble_eq_true rfl, Nat.le_of_ble_eq_true rfl⟩ d_GR_asText_59 ⟨by first | exact Nat.le_of_ble_eq_true rfl | ((try dsimp only); omega), by first | exact Nat.le_of_ble_eq_true rfl | ((try dsimp only); omega)⟩) (fun r_11 h8 H9 locs hp9 hX9 hz9 hI => ?_)
            obtain ⟨rfl, e9⟩ := hp9
            rw [e9] at hI
            clear hX9 e9
            refine f_asi (congrArg nI hvv) ?_
            have hzA := hI.2.2.2.1
            have hq2 : Wt.length + (sb_dg (vs.getD sv 0)) ≤ 2 * mm + 2 := by omega
            have hrI2 := rI_g hrI hq2
            have hgb := gcs_b mm (Wt.length + (sb_dg (vs.getD sv 0)))
            have hrb2 := rI_b2 hrI2 (by omega)
            refine f_callq hI (f_runV C hI (c_SB_append2 l G h1 _ B 31 32 0 mm Wt.length (vs.getD sv 0) (fun j => Wt.getD j 0) (by decide) (by decide) (by decide) hB hvb (by omega) (hD.keepX hX)) gm_SB_append2 w_507 w_508 w_506 g_B rfl rfl rfl hl.1 rfl (Nat.le_of_ble_eq_true rfl) ⟨Nat.le_of_ble_eq_true rfl, Nat.le_of_ble_eq_true rfl⟩ d_GR_asText_62 ⟨by first | exact Nat.le_of_ble_eq_true rfl | ((try dsimp only); omega), by first | exact Nat.le_of_ble_eq_true rfl | ((try dsimp only); omega)⟩) (fun r_12 h9 H9 locs hp9 hX9 hz9 hI => ?_)
            obtain ⟨rfl, hB9, hF9⟩ := hp9
            have hX := fX.tr (Nat.le_trans (Nat.le_of_eq hsz.symm) hzA) hX hX9
            have g_R := hF9 _ _ _ _ g_R (by decide)
            have hF := hF.tr (hF9.mono (fun r9 _ z => (by simp [inR] at z ⊢; omega : inR [22, 31, 32] r9 _)))
            have hB := bL_i hB9
            refine lv_pop hx hb d_GR_asText_65 rfl ?_
            refine lv_iinc (v := nI (sv + 1)) (lv' := [(4, .int (nI (sv + 1))), (0, .ref R), (1, .ref B), (2, .int (nI n)), (3, .ref (G.2.2.2 (fS K))), (5, .int (nI j))]) hx hb d_GR_asText_66 hl (k := 4) rfl (f_inc1 _) (by decide) rfl (fun ls hl => ?_)
            refine lv_goto (tgt := 83) hx hb d_GR_asText_69 (by decide) ?_
            refine lv_iinc (v := nI (j + 1)) (lv' := [(5, .int (nI (j + 1))), (4, .int (nI (sv + 1))), (0, .ref R), (1, .ref B), (2, .int (nI n)), (3, .ref (G.2.2.2 (fS K)))]) hx hb d_GR_asText_83 hl (k := 5) rfl (f_inc1 _) (by decide) rfl (fun ls hl => ?_)
            refine lv_goto (tgt := 33) hx hb d_GR_asText_86 (by decide) ?_
            have hW2 : (Wt ++ dG (vs.getD sv 0)) ++ ofm ((frm K).drop (j + 1)) (vs.drop (sv + 1)) = ot (L.take n) ++ ofm (frm K) vs := by rw [← hW, ofm_s hsl, drop_v (k := sv) (by omega), List.append_assoc]; rfl
            have hrI3 : rI (gw mm (Wt.length + sb_dg (vs.getD sv 0))) (Wt ++ dG (vs.getD sv 0)).length (cs + gc mm (Wt.length + sb_dg (vs.getD sv 0))) (ss + gs mm (Wt.length + sb_dg (vs.getD sv 0))) := by rw [List.length_append, show (dG (vs.getD sv 0)).length = sb_dg (vs.getD sv 0) from dGk_l _ _]; exact hrI2
            refine ih (j + 1) (by omega) (sv + 1) _ hW2 (by omega) _ _ _ _ _ _ hrI3 g_R hB hF hX hI ls ?_
            exact lv_sub hl [2, 3, 4, 5, 1, 0] rfl
          · have hns2 : nsl ((frm K).drop (j + 1)) + sv = vs.length := by rw [← hns, nsl, if_neg hsl, Nat.zero_add]
            refine lv_iload hx hb d_GR_asText_33 (lv_at hl 5 rfl) ?_
            refine lv_aload_n hx hb d_GR_asText_35 rfl (lv_at hl 3 rfl) ?_
            refine f_calli hI (f_runV C hI (c_ST_len l G h1 _ 0 0 (fS K) (G.2.2.2 (fS K)) (fn K) (fx K) hT8) gm_ST_length w_369 w_370 w_503 g_u rfl rfl rfl hl.1 rfl (Nat.le_of_ble_eq_true rfl) ⟨Nat.le_of_ble_eq_true rfl, Nat.le_of_ble_eq_true rfl⟩ d_GR_asText_36 ⟨by first | exact Nat.le_of_ble_eq_true rfl | ((try dsimp only); omega), by first | exact Nat.le_of_ble_eq_true rfl | ((try dsimp only); omega)⟩) (fun r_13 h8 H9 locs hp9 hX9 hz9 hI => ?_)
            obtain ⟨rfl, e9⟩ := hp9
            rw [e9] at hI
            clear hX9 e9
            refine lv_icmp_ge (tgt := 89) hx hb d_GR_asText_39 (by decide) (fun c_14 => absurd c_14 (fun q => absurd ((n_le (a := fn K) (b := j) (by omega) (by omega)).mp q) (by omega))) (fun c_14 => ?_)
            refine lv_aload_n hx hb d_GR_asText_42 rfl (lv_at hl 3 rfl) ?_
            refine lv_iload hx hb d_GR_asText_43 (lv_at hl 5 rfl) ?_
            refine f_calli hI (f_runV C hI (c_ST_at l G h1 _ 0 0 (fS K) (G.2.2.2 (fS K)) j (fn K) (fx K) hT8 (by omega)) gm_ST_charAt w_377 w_378 w_504 g_u rfl rfl rfl hl.1 rfl (Nat.le_of_ble_eq_true rfl) ⟨Nat.le_of_ble_eq_true rfl, Nat.le_of_ble_eq_true rfl⟩ d_GR_asText_45 ⟨by first | exact Nat.le_of_ble_eq_true rfl | ((try dsimp only); omega), by first | exact Nat.le_of_ble_eq_true rfl | ((try dsimp only); omega)⟩) (fun r_15 h8 H9 locs hp9 hX9 hz9 hI => ?_)
            obtain ⟨rfl, e9⟩ := hp9
            rw [e9] at hI
            clear hX9 e9
            refine f_calli hI (f_runS C hI (c_GR_isSlot l G h1 _ (nI (fx K j))) gm_GR_isSlot w_473 w_472 rfl hl.1 rfl (Nat.le_of_ble_eq_true rfl) ⟨Nat.le_of_ble_eq_true rfl, Nat.le_of_ble_eq_true rfl⟩ d_GR_asText_48 ⟨by first | exact Nat.le_of_ble_eq_true rfl | ((try dsimp only); omega), by first | exact Nat.le_of_ble_eq_true rfl | ((try dsimp only); omega)⟩) (fun r_16 h8 H9 locs hp9 hX9 hz9 hI => ?_)
            obtain ⟨rfl, e9⟩ := hp9
            rw [e9] at hI
            clear hX9 e9
            refine f_asi ((slot_n (by omega)).trans (if_neg hsl)) ?_
            refine lv_if_eq (tgt := 72) hx hb d_GR_asText_51 (by decide) (fun c_17 => ?_) (fun c_17 => absurd (by decide) c_17)
            refine lv_aload_n hx hb d_GR_asText_72 rfl (lv_at hl 1 rfl) ?_
            refine lv_aload_n hx hb d_GR_asText_73 rfl (lv_at hl 3 rfl) ?_
            refine lv_iload hx hb d_GR_asText_74 (lv_at hl 5 rfl) ?_
            refine f_calli hI (f_runV C hI (c_ST_at l G h1 _ 0 0 (fS K) (G.2.2.2 (fS K)) j (fn K) (fx K) hT8 (by omega)) gm_ST_charAt w_377 w_378 w_504 g_u rfl rfl rfl hl.1 rfl (Nat.le_of_ble_eq_true rfl) ⟨Nat.le_of_ble_eq_true rfl, Nat.le_of_ble_eq_true rfl⟩ d_GR_asText_76 ⟨by first | exact Nat.le_of_ble_eq_true rfl | ((try dsimp only); omega), by first | exact Nat.le_of_ble_eq_true rfl | ((try dsimp only); omega)⟩) (fun r_18 h8 H9 locs hp9 hX9 hz9 hI => ?_)
            obtain ⟨rfl, e9⟩ := hp9
            rw [e9] at hI
            clear hX9 e9
            have hzA := hI.2.2.2.1
            have hq2 : Wt.length + 1 ≤ 2 * mm + 2 := by omega
            have hrI2 := rI_g hrI hq2
            have hgb := gcs_b mm (Wt.length + 1)
            have hrb2 := rI_b2 hrI2 (by omega)
            refine f_callq hI (f_runV C hI (c_SB_append l G h1 _ B 31 32 0 mm Wt.length (fx K j) (fun j => Wt.getD j 0) (by decide) (by decide) (by decide) hB (by omega) (by omega)) gm_SB_append w_206 w_207 w_540 g_B rfl rfl rfl hl.1 rfl (Nat.le_of_ble_eq_true rfl) ⟨Nat.le_of_ble_eq_true rfl, Nat.le_of_ble_eq_true rfl⟩ d_GR_asText_79 ⟨by first | exact Nat.le_of_ble_eq_true rfl | ((try dsimp only); omega), by first | exact Nat.le_of_ble_eq_true rfl | ((try dsimp only); omega)⟩) (fun r_19 h9 H9 locs hp9 hX9 hz9 hI => ?_)
            obtain ⟨rfl, hB9, hF9⟩ := hp9
            have hX := fX.tr (Nat.le_trans (Nat.le_of_eq hsz.symm) hzA) hX hX9
            have g_R := hF9 _ _ _ _ g_R (by decide)
            have hF := hF.tr (hF9.mono (fun r9 _ z => (by simp [inR] at z ⊢; omega : inR [22, 31, 32] r9 _)))
            have hB := bL_c hB9
            refine lv_pop hx hb d_GR_asText_82 rfl ?_
            refine lv_iinc (v := nI (j + 1)) (lv' := [(5, .int (nI (j + 1))), (0, .ref R), (1, .ref B), (2, .int (nI n)), (3, .ref (G.2.2.2 (fS K))), (4, .int (nI sv))]) hx hb d_GR_asText_83 hl (k := 5) rfl (f_inc1 _) (by decide) rfl (fun ls hl => ?_)
            refine lv_goto (tgt := 33) hx hb d_GR_asText_86 (by decide) ?_
            have hW2 : (Wt ++ [fx K j]) ++ ofm ((frm K).drop (j + 1)) (vs.drop sv) = ot (L.take n) ++ ofm (frm K) vs := by rw [← hW, ofm_n hsl, List.append_assoc]; rfl
            have hrI3 : rI (gw mm (Wt.length + 1)) (Wt ++ [fx K j]).length (cs + gc mm (Wt.length + 1)) (ss + gs mm (Wt.length + 1)) := by rw [List.length_append]; exact hrI2
            refine ih (j + 1) (by omega) sv _ hW2 hns2 _ _ _ _ _ _ hrI3 g_R hB hF hX hI ls ?_
            exact lv_sub hl [1, 2, 3, 4, 5, 0] rfl
      intro mm h1 H locs cs ss hrI g_R hB hF hX hI ls hl
      have hrb := rI_b hrI (by omega)
      refine lv_iload_n hx hb d_GR_asText_10 rfl (lv_at hl 2 rfl) ?_
      refine lv_aload_n hx hb d_GR_asText_11 rfl (lv_at hl 0 rfl) ?_
      refine f_getN (C := "DutyRules$Rules") (T := T_RU) (N := 3) hx hb (fun w q => hT w (s_RU w q)) hown hK hI g_R rfl 0 (by decide) (hG.2.1 _ w_152) (fun _ q => q) rfl d_GR_asText_12 ?_
      refine lv_icmp_ge (tgt := 102) hx hb d_GR_asText_15 (by decide) (fun c_20 => absurd c_20 (fun q => absurd ((n_le (a := L.length) (b := n) (by omega) (by omega)).mp q) (by omega))) (fun c_20 => ?_)
      refine lv_aload_n hx hb d_GR_asText_18 rfl (lv_at hl 0 rfl) ?_
      refine lv_iload_n hx hb d_GR_asText_19 rfl (lv_at hl 2 rfl) ?_
      refine f_calli hI (f_runV C hI (c_RU_kind l G h1 _ R n L.length 28 29 30 kf nf (hR.keepF hF (by decide) (by decide) (by decide)) (by omega)) gm_RU_kind w_500 w_501 w_499 g_R rfl rfl rfl hl.1 rfl (Nat.le_of_ble_eq_true rfl) ⟨Nat.le_of_ble_eq_true rfl, Nat.le_of_ble_eq_true rfl⟩ d_GR_asText_20 ⟨by first | exact Nat.le_of_ble_eq_true rfl | ((try dsimp only); omega), by first | exact Nat.le_of_ble_eq_true rfl | ((try dsimp only); omega)⟩) (fun r_21 h8 H9 locs hp9 hX9 hz9 hI => ?_)
      obtain ⟨rfl, e9⟩ := hp9
      rw [e9] at hI
      clear hX9 e9
      refine f_asi (congrArg nI hk4) ?_
      refine f_callq hI (f_runS C hI (c_GR_formOf l G h1 _ K (by omega)) gm_GR_formOf w_443 w_442 rfl hl.1 rfl (Nat.le_of_ble_eq_true rfl) ⟨Nat.le_of_ble_eq_true rfl, Nat.le_of_ble_eq_true rfl⟩ d_GR_asText_23 ⟨by first | exact Nat.le_of_ble_eq_true rfl | ((try dsimp only); omega), by first | exact Nat.le_of_ble_eq_true rfl | ((try dsimp only); omega)⟩) (fun r_22 h8 H9 locs hp9 hX9 hz9 hI => ?_)
      obtain ⟨rfl, e9f⟩ := hp9
      rw [e9f] at hI
      clear hX9 e9f
      refine lv_astore_n (lv' := [(3, .ref (G.2.2.2 (fS K))), (0, .ref R), (1, .ref B), (2, .int (nI n))]) hx hb d_GR_asText_26 rfl hl (by decide) rfl (fun ls hl => ?_)
      refine lv_iconst (v := 0) hx hb d_GR_asText_27 (by decide) ?_
      refine lv_istore (lv' := [(4, .int 0), (3, .ref (G.2.2.2 (fS K))), (0, .ref R), (1, .ref B), (2, .int (nI n))]) hx hb d_GR_asText_28 hl (by decide) rfl (fun ls hl => ?_)
      refine lv_iconst (v := 0) hx hb d_GR_asText_30 (by decide) ?_
      refine lv_istore (lv' := [(5, .int 0), (4, .int 0), (3, .ref (G.2.2.2 (fS K))), (0, .ref R), (1, .ref B), (2, .int (nI n))]) hx hb d_GR_asText_31 hl (by decide) rfl (fun ls hl => ?_)
      refine J33 (fn K) 0 (by omega) 0 _ (by rw [List.drop_zero, List.drop_zero]) (by rw [List.drop_zero, nsl_f K hK6, hvn]; rfl) _ _ _ _ _ _ hrI g_R hB hF hX hI ls ?_
      exact lv_sub hl [3, 4, 5, 2, 1, 0] rfl
  have hzN := hI.2.2.2.1
  refine f_new (ci := 9) (C := "java/lang/StringBuilder") (T := T_SB) (N := 4) (N2 := 4) (fs := [.null, .int 0, .int 0, .int 0]) hx hb (fun w q => hT w (s_SB w q)) t_SB k_SB hown (hT _ w_497) (hT _ w_31) (hT _ w_3) hK hI rfl (fun j hj => by rcases (show j = 0 ∨ j = 1 ∨ j = 2 ∨ j = 3 by omega) with rfl | rfl | rfl | rfl <;> rfl) 31 0 (Nat.le_of_ble_eq_true rfl) (Nat.le_of_ble_eq_true rfl) d_GR_asText_0 (fun q_23 H eq_23 zq_23 nq_23 hI => ?_)
  generalize eh_24 : fU h q_23 (31, 0, .inr (9, [.null, .int 0, .int 0, .int 0])) = h_24 at hI
  have hX := hX.new (e := .inr (9, [.null, .int 0, .int 0, .int 0])) (r := 31) (o := 0) nq_23 (by omega); rw [eh_24] at hX
  have hF := hF.new (c := (31, 0, .inr (9, [.null, .int 0, .int 0, .int 0]))) nq_23; rw [eh_24] at hF
  have g_R : h_24 R = some (28, 0, .inr (6, [.int (nI L.length), .ref a1, .ref a2])) := (congrFun eh_24 R).symm.trans (fU_keep g_R (f_neN g_R nq_23))
  have g_q_23 : h_24 q_23 = some (31, 0, .inr (9, [.null, .int 0, .int 0, .int 0])) := (congrFun eh_24 q_23).symm.trans (fU_self _ _ _)
  refine lv_dup hx hb d_GR_asText_3 rfl ?_
  have hzA := hI.2.2.2.1
  refine f_callv hI (f_runI C hI (c_SB_init l G h_24 _ q_23 31 32 0 (by decide) (by decide) (by decide) g_q_23) gm_SB_init w_33 rfl w_498 rfl hl.1 rfl (Nat.le_of_ble_eq_true rfl) ⟨Nat.le_of_ble_eq_true rfl, Nat.le_of_ble_eq_true rfl⟩ d_GR_asText_4 ⟨by first | exact Nat.le_of_ble_eq_true rfl | ((try dsimp only); omega), by first | exact Nat.le_of_ble_eq_true rfl | ((try dsimp only); omega)⟩) (fun h9 H9 locs hp9 hX9 hz9 hI => ?_)
  obtain ⟨hB, hF9⟩ := hp9
  have hX := fX.tr (Nat.le_trans (Nat.le_of_eq hsz.symm) hzA) hX hX9
  have g_R := hF9 _ _ _ _ g_R (by decide)
  have hF := hF.tr (hF9.mono (fun r9 _ z => (by simp [inR] at z ⊢; omega : inR [22, 31, 32] r9 _)))
  refine lv_astore_n (lv' := [(1, .ref q_23), (0, .ref R)]) hx hb d_GR_asText_7 rfl hl (by decide) rfl (fun ls hl => ?_)
  refine lv_iconst (v := 0) hx hb d_GR_asText_8 (by decide) ?_
  refine lv_istore_n (lv' := [(2, .int 0), (1, .ref q_23), (0, .ref R)]) hx hb d_GR_asText_9 rfl hl (by decide) rfl (fun ls hl => ?_)
  have hB : bL G h9 31 32 q_23 16 (ot (L.take 0)) := by rw [List.take_zero]; exact hB.ext (fun j hj => absurd hj (Nat.not_lt_zero j))
  refine J10 q_23 L.length 0 (by omega) 16 _ _ _ _ _ (by rw [List.take_zero]; exact ⟨by decide, by decide, ⟨0, by decide, Nat.le_of_ble_eq_true rfl⟩, Nat.le_of_ble_eq_true rfl⟩) g_R hB hF hX hI ls ?_
  exact lv_sub hl [2, 1, 0] rfl
