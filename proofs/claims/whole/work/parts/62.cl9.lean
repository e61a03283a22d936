theorem gm_GR_addRule : gM y_GR_addRule b_GR_addRule 7 (some .boolean) 2 := ⟨w_437, w_18, ⟨by decide, by decide⟩, by decide +kernel⟩
set_option maxHeartbeats 4000000 in
set_option maxRecDepth 100000 in
/-- GR_addRule  -/
theorem c_GR_addRule (l : Launch) (G : gG) (h : fH) (sz : Nat) (x t b e0 w0 tn : Nat) (tx : Nat → Nat) (g_x : h x = some (24, 0, .inr (7, [.ref t, .int (nI b), .int (nI e0), .int (nI w0)]))) (hT1 : sT G h 26 27 0 t tx tn) (hFm : fmS G h) (bb : b ≤ e0) (be : e0 ≤ tn) (R : Nat) (L : List rlT) (kf nf : Nat → Nat) (hR : rU G h 28 29 30 R L.length kf nf) (hrep : rep4 kf nf L) : cM l y_GR_addRule b_GR_addRule 7 (some .boolean) { frames := 7, cells := 7, slots := 28, locals := 148 } G [.ref R, .ref x] h sz (cQi G h sz (fun z h' => ∃ (ok : Bool) (b2 e2 w2 : Nat) (rl : rlT) (kf2 nf2 : Nat → Nat) (c2 : Nat), rule1 tx tn L b e0 w0 = (ok, b2, e2, w2, rl) ∧ z = (if ok = true then 1 else 0) ∧ h' x = some (24, 0, .inr (7, [.ref t, .int (nI b2), .int (nI e2), .int (nI w2)])) ∧ b2 ≤ e2 ∧ e2 ≤ tn ∧ rU G h' 28 29 30 R c2 kf2 nf2 ∧ (ok = true → c2 = L.length + 1 ∧ rep4 kf2 nf2 (L ++ [rl])) ∧ fF (inR [24, 25, 28, 29, 30]) h h')) := by
  refine f_start (by decide) (Nat.le_of_ble_eq_true rfl) ?_
  intro p e s m below meth c ls C hr hsz hI hl
  obtain ⟨hx, hb, hml, hown, hnm, hlk, hT, hG, hZ⟩ := id C
  have hK := hG.1
  have hX : fX h sz h := fX.rf
  have hl : lv_has ls 7 [(0, .ref R), (1, .ref x)] := hl
  have hF : fF (inR [24, 25, 28, 29, 30]) h h := fF.rf
  have bL : L.length ≤ 40 := by obtain ⟨_, _, _, _, _, q9, _⟩ := id hR; exact q9
  have hbw := wb_le (tx := tx) be
  have hew := we_le (tx := tx) hbw.2
  have J43 : ∀ K q : Nat, kd tx b e0 = K → K < 6 → ¬ r1no K L → ∀ (d k : Nat), k + d = plL K → ∀ (vs : List Nat) (b1 e1 w1 : Nat) (nf1 : Nat → Nat), vs.length = vl K k → rp tx tn K (pl K) (wb tx tn e0) (we tx tn (wb tx tn e0)) (w0 + 1) [] = rp tx tn K ((pl K).drop k) b1 e1 w1 vs → b1 ≤ e1 → e1 ≤ tn → rep4 (va_up kf L.length K) nf1 L → (∀ i, i < vs.length → nf1 (L.length * 4 + i) = vs.getD i 0) → ∀ (h1 : fH) (H : Heap) (locs : List Loc) (cs ss : Nat), cs ≤ 7 → ss ≤ 28 → h1 x = some (24, 0, .inr (7, [.ref t, .int (nI b1), .int (nI e1), .int (nI w1)])) → h1 q = some (25, 0, .inr (7, [.ref (G.2.2.2 (fS K)), .int (nI (wq K (k + 1))), .int (nI (wz K (k + 1))), .int (nI (k + 1))])) → rU G h1 28 29 30 R (L.length + 1) (va_up kf L.length K) nf1 → fF (inR [24, 25, 28, 29, 30]) h h1 → fX h sz h1 → fI G.1 g_cl (fA h sz) s.heap h1 H locs → ∀ ls : Array Slot, lv_has ls 7 [(0, .ref R), (1, .ref x), (2, .int (nI K)), (3, .ref q), (4, .int (nI vs.length)), (5, .int (nI (k + 1)))] → W p l e { frames := 7, cells := 7, slots := 28, locals := 148 } s m ([.ref R, .ref x] : List Value).toArray below meth c H locs cs ss (MQ below (cQi G h sz (fun z h' => ∃ (ok : Bool) (b2 e2 w2 : Nat) (rl : rlT) (kf2 nf2 : Nat → Nat) (c2 : Nat), rule1 tx tn L b e0 w0 = (ok, b2, e2, w2, rl) ∧ z = (if ok = true then 1 else 0) ∧ h' x = some (24, 0, .inr (7, [.ref t, .int (nI b2), .int (nI e2), .int (nI w2)])) ∧ b2 ≤ e2 ∧ e2 ≤ tn ∧ rU G h' 28 29 30 R c2 kf2 nf2 ∧ (ok = true → c2 = L.length + 1 ∧ rep4 kf2 nf2 (L ++ [rl])) ∧ fF (inR [24, 25, 28, 29, 30]) h h')) ([.ref R, .ref x] : List Value).toArray s 7 28 (fA h sz)) (F0 m 43 ls []) := by
    intro K q hKd hK6 hno d
    have h40 : L.length < 40 := Nat.lt_of_le_of_ne bL (fun z => hno (Or.inr (Or.inl z)))
    have hpo := plg_ok K hK6
    have hf0 := fm_0 K hK6
    induction d with
    | zero =>
      intro k hkd vs b1 e1 w1 nf1 hvl hRP bb1 be1 hrep1 hvs h1 H locs cs ss hcs hss g_x g_q hR1 hF hX hI ls hl
      have hT9 := hT1.keepF hF (by decide) (by decide)
      have hT8 := (hFm.keepX hX) K hK6
      obtain ⟨tb, tc, tf, tfs, g_t, g_tb, htc, btn, htx⟩ := id hT9
      obtain ⟨ra1, ra2, g_R, g_ra1, g_ra2, bcn, bkf1, bnf1⟩ := id hR1
      obtain ⟨ub, uc, uf, ufs, g_u, _⟩ := id hT8
      have hkp : k = plL K := by omega
      subst hkp
      have hwq : wq K (plL K + 1) = wz K (plL K + 1) := by rw [hf0.2.2.2.2.2.2.1, hf0.2.2.2.2.2.2.2]
      have hwl : wq K (plL K + 1) ≤ 30 := by rw [hf0.2.2.2.2.2.2.1]; exact fn_le K
      have hRP2 : rp tx tn K (pl K) (wb tx tn e0) (we tx tn (wb tx tn e0)) (w0 + 1) [] = (true, b1, e1, w1, vs) := by rw [hRP, List.drop_eq_nil_of_le (show (pl K).length ≤ plL K from Nat.le_refl _)]; rfl
      refine lv_iload hx hb d_GR_addRule_43 (lv_at hl 5 rfl) ?_
      refine lv_bipush (v := 9) hx hb d_GR_addRule_45 (by decide) ?_
      refine lv_icmp_ge (tgt := 125) hx hb d_GR_addRule_47 (by decide) (fun c_1 => ?_) (fun c_1 => ?_)
      · have c_1 : 9 ≤ (plL K + 1) := (n_le (a := 9) (b := (plL K + 1)) (by omega) (by omega)).mp c_1
        refine lv_iconst (v := 1) hx hb d_GR_addRule_125 (by decide) ?_
        exact f_zret C hr rfl hI ⟨true, b1, e1, w1, (K, vs), (va_up kf L.length K), nf1, L.length + 1, rule1_go hKd hno hRP2, rfl, g_x, bb1, be1, hR1, (fun _ => ⟨rfl, rep4_add hrep1 (va_up_self _ _ _) hvs (rp_wf hK6 hRP2)⟩), hF⟩ hX (by (try dsimp only); omega) (by (try dsimp only); omega) d_GR_addRule_126
      · have c_1 : ¬ 9 ≤ (plL K + 1) := fun q => c_1 ((n_le (a := 9) (b := (plL K + 1)) (by omega) (by omega)).mpr q)
        refine lv_aload_n hx hb d_GR_addRule_50 rfl (lv_at hl 3 rfl) ?_
        refine f_calli hI (f_runV C hI (c_WO_isEnd l G h1 _ q (G.2.2.2 (fS K)) 25 (wq K (plL K + 1)) (wz K (plL K + 1)) (nI (plL K + 1)) g_q (by omega) (by omega)) gm_WO_isEnd w_432 w_433 w_431 g_q rfl rfl rfl hl.1 rfl (Nat.le_of_ble_eq_true rfl) ⟨Nat.le_of_ble_eq_true rfl, Nat.le_of_ble_eq_true rfl⟩ d_GR_addRule_51 ⟨by first | exact Nat.le_of_ble_eq_true rfl | ((try dsimp only); omega), by first | exact Nat.le_of_ble_eq_true rfl | ((try dsimp only); omega)⟩) (fun r_2 h8 H9 locs hp9 hX9 hz9 hI => ?_)
        obtain ⟨hq9, e9f⟩ := hp9
        rw [e9f] at hI
        clear hX9 e9f
        rcases hq9 with ⟨rfl, hE⟩ | ⟨rfl, hE⟩
        · skip
          refine lv_if_ne (tgt := 125) hx hb d_GR_addRule_54 (by decide) (fun c_3 => ?_) (fun c_3 => absurd c_3 (by decide))
          refine lv_iconst (v := 1) hx hb d_GR_addRule_125 (by decide) ?_
          exact f_zret C hr rfl hI ⟨true, b1, e1, w1, (K, vs), (va_up kf L.length K), nf1, L.length + 1, rule1_go hKd hno hRP2, rfl, g_x, bb1, be1, hR1, (fun _ => ⟨rfl, rep4_add hrep1 (va_up_self _ _ _) hvs (rp_wf hK6 hRP2)⟩), hF⟩ hX (by (try dsimp only); omega) (by (try dsimp only); omega) d_GR_addRule_126
        · skip
          exact absurd hwq hE
    | succ d ih =>
      intro k hkd vs b1 e1 w1 nf1 hvl hRP bb1 be1 hrep1 hvs h1 H locs cs ss hcs hss g_x g_q hR1 hF hX hI ls hl
      have ih : ∀ k : Nat, k + d = plL K → ∀ (vs : List Nat) (b1 e1 w1 : Nat) (nf1 : Nat → Nat), vs.length = vl K k → rp tx tn K (pl K) (wb tx tn e0) (we tx tn (wb tx tn e0)) (w0 + 1) [] = rp tx tn K ((pl K).drop k) b1 e1 w1 vs → b1 ≤ e1 → e1 ≤ tn → rep4 (va_up kf L.length K) nf1 L → (∀ i, i < vs.length → nf1 (L.length * 4 + i) = vs.getD i 0) → ∀ (h1 : fH) (H : Heap) (locs : List Loc) (cs ss : Nat), cs ≤ 7 → ss ≤ 28 → h1 x = some (24, 0, .inr (7, [.ref t, .int (nI b1), .int (nI e1), .int (nI w1)])) → h1 q = some (25, 0, .inr (7, [.ref (G.2.2.2 (fS K)), .int (nI (wq K (k + 1))), .int (nI (wz K (k + 1))), .int (nI (k + 1))])) → rU G h1 28 29 30 R (L.length + 1) (va_up kf L.length K) nf1 → fF (inR [24, 25, 28, 29, 30]) h h1 → fX h sz h1 → fI G.1 g_cl (fA h sz) s.heap h1 H locs → ∀ ls : Array Slot, lv_has ls 7 [(0, .ref R), (1, .ref x), (2, .int (nI K)), (3, .ref q), (4, .int (nI vs.length)), (5, .int (nI (k + 1)))] → W p l e { frames := 7, cells := 7, slots := 28, locals := 148 } s m ([.ref R, .ref x] : List Value).toArray below meth c H locs cs ss (MQ below (cQi G h sz (fun z h' => ∃ (ok : Bool) (b2 e2 w2 : Nat) (rl : rlT) (kf2 nf2 : Nat → Nat) (c2 : Nat), rule1 tx tn L b e0 w0 = (ok, b2, e2, w2, rl) ∧ z = (if ok = true then 1 else 0) ∧ h' x = some (24, 0, .inr (7, [.ref t, .int (nI b2), .int (nI e2), .int (nI w2)])) ∧ b2 ≤ e2 ∧ e2 ≤ tn ∧ rU G h' 28 29 30 R c2 kf2 nf2 ∧ (ok = true → c2 = L.length + 1 ∧ rep4 kf2 nf2 (L ++ [rl])) ∧ fF (inR [24, 25, 28, 29, 30]) h h')) ([.ref R, .ref x] : List Value).toArray s 7 28 (fA h sz)) (F0 m 43 ls []) := ih
      have hT9 := hT1.keepF hF (by decide) (by decide)
      have hT8 := (hFm.keepX hX) K hK6
      obtain ⟨tb, tc, tf, tfs, g_t, g_tb, htc, btn, htx⟩ := id hT9
      obtain ⟨ra1, ra2, g_R, g_ra1, g_ra2, bcn, bkf1, bnf1⟩ := id hR1
      obtain ⟨ub, uc, uf, ufs, g_u, _⟩ := id hT8
      have hk8 : k < plL K := by omega
      have hdr := pl_drop hk8
      have hfl := fn_le K
      have hbw1 := wb_le (tx := tx) be1
      have hew1 := we_le (tx := tx) hbw1.2
      rcases hp : plg K k with M | wd
      · have hpl := plg_l hK6 hk8 hp
        have hfm := fm_n hK6 hk8 hp
        have hsl : 65 ≤ fx K (wq K (k + 1)) ∧ fx K (wq K (k + 1)) ≤ 90 := by rw [hfm.2.2.2.1]; exact ltr_s _ _
        have hb9 : ∀ v, nm tx b1 e1 = some v → v < 1000000000 := fun v => nm_b
        refine lv_iload hx hb d_GR_addRule_43 (lv_at hl 5 rfl) ?_
        refine lv_bipush (v := 9) hx hb d_GR_addRule_45 (by decide) ?_
        refine lv_icmp_ge (tgt := 125) hx hb d_GR_addRule_47 (by decide) (fun c_4 => absurd c_4 (fun q => absurd ((n_le (a := 9) (b := k + 1) (by omega) (by omega)).mp q) (by omega))) (fun c_4 => ?_)
        refine lv_aload_n hx hb d_GR_addRule_50 rfl (lv_at hl 3 rfl) ?_
        refine f_calli hI (f_runV C hI (c_WO_isEnd l G h1 _ q (G.2.2.2 (fS K)) 25 (wq K (k + 1)) (wz K (k + 1)) (nI (k + 1)) g_q (by omega) (by omega)) gm_WO_isEnd w_432 w_433 w_431 g_q rfl rfl rfl hl.1 rfl (Nat.le_of_ble_eq_true rfl) ⟨Nat.le_of_ble_eq_true rfl, Nat.le_of_ble_eq_true rfl⟩ d_GR_addRule_51 ⟨by first | exact Nat.le_of_ble_eq_true rfl | ((try dsimp only); omega), by first | exact Nat.le_of_ble_eq_true rfl | ((try dsimp only); omega)⟩) (fun r_5 h8 H9 locs hp9 hX9 hz9 hI => ?_)
        obtain ⟨hq9, e9f⟩ := hp9
        rw [e9f] at hI
        clear hX9 e9f
        rcases hq9 with ⟨rfl, hE⟩ | ⟨rfl, hE⟩
        · skip
          exact absurd hE (by omega)
        · skip
          refine lv_if_ne (tgt := 125) hx hb d_GR_addRule_54 (by decide) (fun c_6 => absurd (by decide) c_6) (fun c_6 => ?_)
          refine lv_aload_n hx hb d_GR_addRule_57 rfl (lv_at hl 3 rfl) ?_
          refine f_calli hI (f_runV C hI (c_WO_firstByte l G h1 _ q (G.2.2.2 (fS K)) 25 (wq K (k + 1)) (wz K (k + 1)) (nI (k + 1)) (fn K) 0 0 (fS K) (fx K) g_q hT8 (by omega)) gm_WO_firstByte w_469 w_470 w_468 g_q rfl rfl rfl hl.1 rfl (Nat.le_of_ble_eq_true rfl) ⟨Nat.le_of_ble_eq_true rfl, Nat.le_of_ble_eq_true rfl⟩ d_GR_addRule_58 ⟨by first | exact Nat.le_of_ble_eq_true rfl | ((try dsimp only); omega), by first | exact Nat.le_of_ble_eq_true rfl | ((try dsimp only); omega)⟩) (fun r_7 h8 H9 locs hp9 hX9 hz9 hI => ?_)
          obtain ⟨rfl, e9⟩ := hp9
          rw [e9] at hI
          clear hX9 e9
          refine f_asi (congrArg nI (if_pos (show wq K (k + 1) < fn K by omega))) ?_
          refine f_calli hI (f_runS C hI (c_GR_isSlot l G h1 _ (nI (fx K (wq K (k + 1))))) gm_GR_isSlot w_473 w_472 rfl hl.1 rfl (Nat.le_of_ble_eq_true rfl) ⟨Nat.le_of_ble_eq_true rfl, Nat.le_of_ble_eq_true rfl⟩ d_GR_addRule_61 ⟨by first | exact Nat.le_of_ble_eq_true rfl | ((try dsimp only); omega), by first | exact Nat.le_of_ble_eq_true rfl | ((try dsimp only); omega)⟩) (fun r_8 h8 H9 locs hp9 hX9 hz9 hI => ?_)
          obtain ⟨rfl, e9⟩ := hp9
          rw [e9] at hI
          clear hX9 e9
          refine f_asi ((slot_n (by have := fx_lt K (wq K (k + 1)); omega)).trans (if_pos hsl)) ?_
          refine lv_if_ne (tgt := 77) hx hb d_GR_addRule_64 (by decide) (fun c_9 => ?_) (fun c_9 => absurd c_9 (by decide))
          refine lv_aload_n hx hb d_GR_addRule_77 rfl (lv_at hl 1 rfl) ?_
          refine f_calli hI (f_runV C hI (c_WO_asNumber l G h1 _ x t 24 b1 e1 (nI w1) tn 26 27 0 tx g_x hT9 bb1 be1) gm_WO_asNumber w_476 w_477 w_475 g_x rfl rfl rfl hl.1 rfl (Nat.le_of_ble_eq_true rfl) ⟨Nat.le_of_ble_eq_true rfl, Nat.le_of_ble_eq_true rfl⟩ d_GR_addRule_78 ⟨by first | exact Nat.le_of_ble_eq_true rfl | ((try dsimp only); omega), by first | exact Nat.le_of_ble_eq_true rfl | ((try dsimp only); omega)⟩) (fun r_10 h8 H9 locs hp9 hX9 hz9 hI => ?_)
          obtain ⟨rfl, e9⟩ := hp9
          rw [e9] at hI
          clear hX9 e9
          refine lv_istore (lv' := [(6, .int (oN (nm tx b1 e1))), (0, .ref R), (1, .ref x), (2, .int (nI K)), (3, .ref q), (4, .int (nI vs.length)), (5, .int (nI (k + 1)))]) hx hb d_GR_addRule_81 hl (by decide) rfl (fun ls hl => ?_)
          refine lv_iload hx hb d_GR_addRule_83 (lv_at hl 0 rfl) ?_
          refine lv_aload_n hx hb d_GR_addRule_85 rfl (lv_at hl 4 rfl) ?_
          refine f_calli hI (f_runV C hI (c_WO_firstByte l G h1 _ q (G.2.2.2 (fS K)) 25 (wq K (k + 1)) (wz K (k + 1)) (nI (k + 1)) (fn K) 0 0 (fS K) (fx K) g_q hT8 (by omega)) gm_WO_firstByte w_469 w_470 w_468 g_q rfl rfl rfl hl.1 rfl (Nat.le_of_ble_eq_true rfl) ⟨Nat.le_of_ble_eq_true rfl, Nat.le_of_ble_eq_true rfl⟩ d_GR_addRule_86 ⟨by first | exact Nat.le_of_ble_eq_true rfl | ((try dsimp only); omega), by first | exact Nat.le_of_ble_eq_true rfl | ((try dsimp only); omega)⟩) (fun r_11 h8 H9 locs hp9 hX9 hz9 hI => ?_)
          obtain ⟨rfl, e9⟩ := hp9
          rw [e9] at hI
          clear hX9 e9
          refine f_asi (congrArg nI (if_pos (show wq K (k + 1) < fn K by omega))) ?_
          have hcc : nI (fx K (wq K (k + 1))) = nI (ltr K M).1 := by rw [hfm.2.2.2.1]
          refine f_asi hcc ?_
          refine f_calli hI (f_runS C hI (c_GR_isInRange l G h1 _ (nm tx b1 e1) hb9 (ltr K M).1 (ltr K M).2 M hfm.2.2.2.2) gm_GR_isInRange w_481 w_480 rfl hl.1 rfl (Nat.le_of_ble_eq_true rfl) ⟨Nat.le_of_ble_eq_true rfl, Nat.le_of_ble_eq_true rfl⟩ d_GR_addRule_89 ⟨by first | exact Nat.le_of_ble_eq_true rfl | ((try dsimp only); omega), by first | exact Nat.le_of_ble_eq_true rfl | ((try dsimp only); omega)⟩) (fun r_12 h8 H9 locs hp9 hX9 hz9 hI => ?_)
          obtain ⟨hq9, e9f⟩ := hp9
          rw [e9f] at hI
          clear hX9 e9f
          rcases hq9 with ⟨rfl, v, hv, hv1, hv2⟩ | ⟨rfl, hN⟩
          · rw [hv] at hl
            have hnM : nmM tx b1 e1 M = some v := by unfold nmM; rw [hv]; exact if_neg (by omega)
            have hl : lv_has ls 7 [(6, .int (nI v)), (0, .ref R), (1, .ref x), (2, .int (nI K)), (3, .ref q), (4, .int (nI vs.length)), (5, .int (nI (k + 1)))] := hl
            refine lv_if_eq (tgt := 106) hx hb d_GR_addRule_92 (by decide) (fun c_13 => absurd c_13 (by decide)) (fun c_13 => ?_)
            refine lv_aload_n hx hb d_GR_addRule_95 rfl (lv_at hl 1 rfl) ?_
            refine lv_iload hx hb d_GR_addRule_96 (lv_at hl 5 rfl) ?_
            refine lv_iload hx hb d_GR_addRule_98 (lv_at hl 0 rfl) ?_
            have hzA := hI.2.2.2.1
            refine f_calli hI (f_runV C hI (c_RU_put l G h1 _ R (L.length + 1) (va_up kf L.length K) nf1 hR1 vs.length v (by omega) (by omega) (by omega)) gm_RU_put w_486 w_487 w_485 g_R rfl rfl rfl hl.1 rfl (Nat.le_of_ble_eq_true rfl) ⟨Nat.le_of_ble_eq_true rfl, Nat.le_of_ble_eq_true rfl⟩ d_GR_addRule_100 ⟨by first | exact Nat.le_of_ble_eq_true rfl | ((try dsimp only); omega), by first | exact Nat.le_of_ble_eq_true rfl | ((try dsimp only); omega)⟩) (fun r_14 h9 H9 locs hp9 hX9 hz9 hI => ?_)
            rcases hp9 with ⟨rfl, hbd, e9f⟩ | ⟨rfl, hnb, hR1, hF9⟩
            · rw [e9f] at hI
              refine lv_if_ne (tgt := 108) hx hb d_GR_addRule_103 (by decide) (fun c_15 => absurd (by decide) c_15) (fun c_15 => ?_)
              refine lv_iconst (v := 0) hx hb d_GR_addRule_106 (by decide) ?_
              exact f_zret C hr rfl hI ⟨false, b1, e1, w1, (K, vs), (va_up kf L.length K), nf1, L.length + 1, rule1_go (q := (false, b1, e1, w1, vs)) hKd hno (hRP.trans (by rw [hdr, hp]; exact rp_vb hnM (Or.inr ⟨(va_up_self kf _ K).symm.trans hbd.1, hbd.2.1, by rw [← hvs 1 (by omega)]; exact hbd.2.2⟩))), rfl, g_x, bb1, be1, hR1, (fun z => by cases z), hF⟩ hX (by (try dsimp only); omega) (by (try dsimp only); omega) d_GR_addRule_107
            · have hX := fX.tr (Nat.le_trans (Nat.le_of_eq hsz.symm) hzA) hX hX9
              have g_x := hF9 _ _ _ _ g_x (by decide)
              have g_q := hF9 _ _ _ _ g_q (by decide)
              have hF := hF.tr (hF9.mono (fun r9 _ z => (by simp [inR] at z ⊢; omega : inR [24, 25, 28, 29, 30] r9 _)))
              have hT9 := hT1.keepF hF (by decide) (by decide)
              refine lv_if_ne (tgt := 108) hx hb d_GR_addRule_103 (by decide) (fun c_16 => ?_) (fun c_16 => absurd c_16 (by decide))
              refine lv_iinc (v := nI (vs.length + 1)) (lv' := [(4, .int (nI (vs.length + 1))), (6, .int (nI v)), (0, .ref R), (1, .ref x), (2, .int (nI K)), (3, .ref q), (5, .int (nI (k + 1)))]) hx hb d_GR_addRule_108 hl (k := 5) rfl (f_inc1 _) (by decide) rfl (fun ls hl => ?_)
              refine lv_aload_n hx hb d_GR_addRule_111 rfl (lv_at hl 5 rfl) ?_
              have hzA := hI.2.2.2.1
              refine f_callv hI (f_runV C hI (c_WO_advance l G h9 _ q (G.2.2.2 (fS K)) 25 (wq K (k + 1)) (wz K (k + 1)) (nI (k + 1)) (fn K) 0 0 (fS K) (fx K) g_q ((hFm.keepX hX) K hK6) (by decide) (by decide) (by decide) (by omega)) gm_WO_advance w_365 w_366 w_493 g_q rfl rfl rfl hl.1 rfl (Nat.le_of_ble_eq_true rfl) ⟨Nat.le_of_ble_eq_true rfl, Nat.le_of_ble_eq_true rfl⟩ d_GR_addRule_112 ⟨by first | exact Nat.le_of_ble_eq_true rfl | ((try dsimp only); omega), by first | exact Nat.le_of_ble_eq_true rfl | ((try dsimp only); omega)⟩) (fun h9 H9 locs hp9 hX9 hz9 hI => ?_)
              obtain ⟨g_q, hF9⟩ := hp9
              have hX := fX.tr (Nat.le_trans (Nat.le_of_eq hsz.symm) hzA) hX hX9
              have g_x := hF9 _ _ _ _ g_x (by decide)
              have hR1 := hR1.keepF hF9 (by decide) (by decide) (by decide)
              have hF := hF.tr (hF9.mono (fun r9 _ z => (by simp [inR] at z ⊢; omega : inR [24, 25, 28, 29, 30] r9 _)))
              rw [nI_1] at g_q
              have hT9 := hT1.keepF hF (by decide) (by decide)
              refine lv_aload_n hx hb d_GR_addRule_115 rfl (lv_at hl 3 rfl) ?_
              have hzA := hI.2.2.2.1
              refine f_callv hI (f_runV C hI (c_WO_advance l G h9 _ x t 24 b1 e1 (nI w1) tn 26 27 0 tx g_x hT9 (by decide) (by decide) (by decide) be1) gm_WO_advance w_365 w_366 w_493 g_x rfl rfl rfl hl.1 rfl (Nat.le_of_ble_eq_true rfl) ⟨Nat.le_of_ble_eq_true rfl, Nat.le_of_ble_eq_true rfl⟩ d_GR_addRule_116 ⟨by first | exact Nat.le_of_ble_eq_true rfl | ((try dsimp only); omega), by first | exact Nat.le_of_ble_eq_true rfl | ((try dsimp only); omega)⟩) (fun h9 H9 locs hp9 hX9 hz9 hI => ?_)
              obtain ⟨g_x, hF9⟩ := hp9
              have hX := fX.tr (Nat.le_trans (Nat.le_of_eq hsz.symm) hzA) hX hX9
              have g_q := hF9 _ _ _ _ g_q (by decide)
              have hR1 := hR1.keepF hF9 (by decide) (by decide) (by decide)
              have hF := hF.tr (hF9.mono (fun r9 _ z => (by simp [inR] at z ⊢; omega : inR [24, 25, 28, 29, 30] r9 _)))
              rw [nI_1] at g_x
              refine lv_iinc (v := nI (k + 1 + 1)) (lv' := [(5, .int (nI (k + 1 + 1))), (4, .int (nI (vs.length + 1))), (6, .int (nI v)), (0, .ref R), (1, .ref x), (2, .int (nI K)), (3, .ref q)]) hx hb d_GR_addRule_119 hl (k := 6) rfl (f_inc1 _) (by decide) rfl (fun ls hl => ?_)
              refine lv_goto (tgt := 43) hx hb d_GR_addRule_122 (by decide) ?_
              have hnb2 : ¬ rbad K vs v := by
                rintro (⟨q1, q2⟩ | ⟨q1, q2, q3⟩)
                · have := ltr_4 (M := M) q1; omega
                · refine hnb ⟨(va_up_self kf _ K).trans q1, q2, ?_⟩
                  rw [← hvs 1 (by omega)] at q3
                  exact q3
              have hlen : (vs ++ [v]).length = vs.length + 1 := by simp
              refine ih (k + 1) (by omega) (vs ++ [v]) _ _ _ (va_up nf1 (L.length * 4 + vs.length) v) (by rw [hlen]; omega) (hRP.trans (by rw [hdr, hp]; exact rp_v hnM hnb2)) hew1.1 hew1.2 (rep4_n hrep1 (by omega)) (fun i hi => ?_) _ _ _ _ _ (by (try dsimp only); omega) (by (try dsimp only); omega) g_x g_q hR1 hF hX hI ls ?_
              · rw [hlen] at hi
                by_cases hi2 : i = vs.length
                · subst hi2; rw [va_up_self, List.getD_eq_getElem?_getD, List.getElem?_append_right (Nat.le_refl _), Nat.sub_self]; rfl
                · rw [va_up_ne _ _ (by omega), hvs i (by omega), List.getD_eq_getElem?_getD, List.getD_eq_getElem?_getD, List.getElem?_append_left (by omega)]
              rw [hlen]
              exact lv_sub hl [3, 4, 5, 6, 1, 0] rfl
          · skip
            refine lv_if_eq (tgt := 106) hx hb d_GR_addRule_92 (by decide) (fun c_19 => ?_) (fun c_19 => absurd (by decide) c_19)
            refine lv_iconst (v := 0) hx hb d_GR_addRule_106 (by decide) ?_
            exact f_zret C hr rfl hI ⟨false, b1, e1, w1, (K, vs), (va_up kf L.length K), nf1, L.length + 1, rule1_go (q := (false, b1, e1, w1, vs)) hKd hno (hRP.trans (by rw [hdr, hp]; exact rp_bad hN)), rfl, g_x, bb1, be1, hR1, (fun z => by cases z), hF⟩ hX (by (try dsimp only); omega) (by (try dsimp only); omega) d_GR_addRule_107
      · have hpr := plg_r hK6 hk8 hp
        have hfm := fm_w hK6 hk8 hp
        have hsl := hfm.2.2.2.2.2
        refine lv_iload hx hb d_GR_addRule_43 (lv_at hl 5 rfl) ?_
        refine lv_bipush (v := 9) hx hb d_GR_addRule_45 (by decide) ?_
        refine lv_icmp_ge (tgt := 125) hx hb d_GR_addRule_47 (by decide) (fun c_20 => absurd c_20 (fun q => absurd ((n_le (a := 9) (b := k + 1) (by omega) (by omega)).mp q) (by omega))) (fun c_20 => ?_)
        refine lv_aload_n hx hb d_GR_addRule_50 rfl (lv_at hl 3 rfl) ?_
        refine f_calli hI (f_runV C hI (c_WO_isEnd l G h1 _ q (G.2.2.2 (fS K)) 25 (wq K (k + 1)) (wz K (k + 1)) (nI (k + 1)) g_q (by omega) (by omega)) gm_WO_isEnd w_432 w_433 w_431 g_q rfl rfl rfl hl.1 rfl (Nat.le_of_ble_eq_true rfl) ⟨Nat.le_of_ble_eq_true rfl, Nat.le_of_ble_eq_true rfl⟩ d_GR_addRule_51 ⟨by first | exact Nat.le_of_ble_eq_true rfl | ((try dsimp only); omega), by first | exact Nat.le_of_ble_eq_true rfl | ((try dsimp only); omega)⟩) (fun r_21 h8 H9 locs hp9 hX9 hz9 hI => ?_)
        obtain ⟨hq9, e9f⟩ := hp9
        rw [e9f] at hI
        clear hX9 e9f
        rcases hq9 with ⟨rfl, hE⟩ | ⟨rfl, hE⟩
        · skip
          exact absurd hE (by omega)
        · skip
          refine lv_if_ne (tgt := 125) hx hb d_GR_addRule_54 (by decide) (fun c_22 => absurd (by decide) c_22) (fun c_22 => ?_)
          refine lv_aload_n hx hb d_GR_addRule_57 rfl (lv_at hl 3 rfl) ?_
          refine f_calli hI (f_runV C hI (c_WO_firstByte l G h1 _ q (G.2.2.2 (fS K)) 25 (wq K (k + 1)) (wz K (k + 1)) (nI (k + 1)) (fn K) 0 0 (fS K) (fx K) g_q hT8 (by omega)) gm_WO_firstByte w_469 w_470 w_468 g_q rfl rfl rfl hl.1 rfl (Nat.le_of_ble_eq_true rfl) ⟨Nat.le_of_ble_eq_true rfl, Nat.le_of_ble_eq_true rfl⟩ d_GR_addRule_58 ⟨by first | exact Nat.le_of_ble_eq_true rfl | ((try dsimp only); omega), by first | exact Nat.le_of_ble_eq_true rfl | ((try dsimp only); omega)⟩) (fun r_23 h8 H9 locs hp9 hX9 hz9 hI => ?_)
          obtain ⟨rfl, e9⟩ := hp9
          rw [e9] at hI
          clear hX9 e9
          refine f_asi (congrArg nI (if_pos (show wq K (k + 1) < fn K by omega))) ?_
          refine f_calli hI (f_runS C hI (c_GR_isSlot l G h1 _ (nI (fx K (wq K (k + 1))))) gm_GR_isSlot w_473 w_472 rfl hl.1 rfl (Nat.le_of_ble_eq_true rfl) ⟨Nat.le_of_ble_eq_true rfl, Nat.le_of_ble_eq_true rfl⟩ d_GR_addRule_61 ⟨by first | exact Nat.le_of_ble_eq_true rfl | ((try dsimp only); omega), by first | exact Nat.le_of_ble_eq_true rfl | ((try dsimp only); omega)⟩) (fun r_24 h8 H9 locs hp9 hX9 hz9 hI => ?_)
          obtain ⟨rfl, e9⟩ := hp9
          rw [e9] at hI
          clear hX9 e9
          refine f_asi ((slot_n (by have := fx_lt K (wq K (k + 1)); omega)).trans (if_neg hsl)) ?_
          refine lv_if_ne (tgt := 77) hx hb d_GR_addRule_64 (by decide) (fun c_25 => absurd (by decide) c_25) (fun c_25 => ?_)
          refine lv_aload_n hx hb d_GR_addRule_67 rfl (lv_at hl 1 rfl) ?_
          refine lv_aload_n hx hb d_GR_addRule_68 rfl (lv_at hl 3 rfl) ?_
          refine f_calli hI (f_runV C hI (c_WO_isSameWordAs l G h1 _ x t 24 b1 e1 (nI w1) tn 26 27 0 tx g_x hT9 q (G.2.2.2 (fS K)) 25 (wq K (k + 1)) (wz K (k + 1)) (nI (k + 1)) (fn K) 0 0 (fS K) (fx K) g_q hT8 bb1 be1 (by omega) (by omega)) gm_WO_isSameWordAs w_453 w_454 w_452 g_x rfl rfl rfl hl.1 rfl (Nat.le_of_ble_eq_true rfl) ⟨Nat.le_of_ble_eq_true rfl, Nat.le_of_ble_eq_true rfl⟩ d_GR_addRule_69 ⟨by first | exact Nat.le_of_ble_eq_true rfl | ((try dsimp only); omega), by first | exact Nat.le_of_ble_eq_true rfl | ((try dsimp only); omega)⟩) (fun r_26 h8 H9 locs hp9 hX9 hz9 hI => ?_)
          obtain ⟨hq9, e9f⟩ := hp9
          rw [e9f] at hI
          clear hX9 e9f
          rcases hq9 with ⟨rfl, hW⟩ | ⟨rfl, hW⟩
          · skip
            have hW := (sm_eq hfm.2.2.2.1 hfm.2.2.2.2.1).mp hW
            refine lv_if_ne (tgt := 111) hx hb d_GR_addRule_72 (by decide) (fun c_27 => ?_) (fun c_27 => absurd c_27 (by decide))
            refine lv_aload_n hx hb d_GR_addRule_111 rfl (lv_at hl 3 rfl) ?_
            have hzA := hI.2.2.2.1
            refine f_callv hI (f_runV C hI (c_WO_advance l G h1 _ q (G.2.2.2 (fS K)) 25 (wq K (k + 1)) (wz K (k + 1)) (nI (k + 1)) (fn K) 0 0 (fS K) (fx K) g_q ((hFm.keepX hX) K hK6) (by decide) (by decide) (by decide) (by omega)) gm_WO_advance w_365 w_366 w_493 g_q rfl rfl rfl hl.1 rfl (Nat.le_of_ble_eq_true rfl) ⟨Nat.le_of_ble_eq_true rfl, Nat.le_of_ble_eq_true rfl⟩ d_GR_addRule_112 ⟨by first | exact Nat.le_of_ble_eq_true rfl | ((try dsimp only); omega), by first | exact Nat.le_of_ble_eq_true rfl | ((try dsimp only); omega)⟩) (fun h9 H9 locs hp9 hX9 hz9 hI => ?_)
            obtain ⟨g_q, hF9⟩ := hp9
            have hX := fX.tr (Nat.le_trans (Nat.le_of_eq hsz.symm) hzA) hX hX9
            have g_x := hF9 _ _ _ _ g_x (by decide)
            have hR1 := hR1.keepF hF9 (by decide) (by decide) (by decide)
            have hF := hF.tr (hF9.mono (fun r9 _ z => (by simp [inR] at z ⊢; omega : inR [24, 25, 28, 29, 30] r9 _)))
            rw [nI_1] at g_q
            have hT9 := hT1.keepF hF (by decide) (by decide)
            refine lv_aload_n hx hb d_GR_addRule_115 rfl (lv_at hl 1 rfl) ?_
            have hzA := hI.2.2.2.1
            refine f_callv hI (f_runV C hI (c_WO_advance l G h9 _ x t 24 b1 e1 (nI w1) tn 26 27 0 tx g_x hT9 (by decide) (by decide) (by decide) be1) gm_WO_advance w_365 w_366 w_493 g_x rfl rfl rfl hl.1 rfl (Nat.le_of_ble_eq_true rfl) ⟨Nat.le_of_ble_eq_true rfl, Nat.le_of_ble_eq_true rfl⟩ d_GR_addRule_116 ⟨by first | exact Nat.le_of_ble_eq_true rfl | ((try dsimp only); omega), by first | exact Nat.le_of_ble_eq_true rfl | ((try dsimp only); omega)⟩) (fun h9 H9 locs hp9 hX9 hz9 hI => ?_)
            obtain ⟨g_x, hF9⟩ := hp9
            have hX := fX.tr (Nat.le_trans (Nat.le_of_eq hsz.symm) hzA) hX hX9
            have g_q := hF9 _ _ _ _ g_q (by decide)
            have hR1 := hR1.keepF hF9 (by decide) (by decide) (by decide)
            have hF := hF.tr (hF9.mono (fun r9 _ z => (by simp [inR] at z ⊢; omega : inR [24, 25, 28, 29, 30] r9 _)))
            rw [nI_1] at g_x
            refine lv_iinc (v := nI (k + 1 + 1)) (lv' := [(5, .int (nI (k + 1 + 1))), (0, .ref R), (1, .ref x), (2, .int (nI K)), (3, .ref q), (4, .int (nI vs.length))]) hx hb d_GR_addRule_119 hl (k := 5) rfl (f_inc1 _) (by decide) rfl (fun ls hl => ?_)
            refine lv_goto (tgt := 43) hx hb d_GR_addRule_122 (by decide) ?_
            refine ih (k + 1) (by omega) vs _ _ _ nf1 (by omega) (hRP.trans (by rw [hdr, hp]; exact rp_w hW)) hew1.1 hew1.2 hrep1 hvs _ _ _ _ _ (by (try dsimp only); omega) (by (try dsimp only); omega) g_x g_q hR1 hF hX hI ls ?_
            exact lv_sub hl [1, 2, 3, 4, 5, 0] rfl
          · skip
            have hW : ¬ eqW tx b1 e1 wd := fun z => hW ((sm_eq hfm.2.2.2.1 hfm.2.2.2.2.1).mpr z)
            refine lv_if_ne (tgt := 111) hx hb d_GR_addRule_72 (by decide) (fun c_30 => absurd (by decide) c_30) (fun c_30 => ?_)
            refine lv_iconst (v := 0) hx hb d_GR_addRule_75 (by decide) ?_
            exact f_zret C hr rfl hI ⟨false, b1, e1, w1, (K, vs), (va_up kf L.length K), nf1, L.length + 1, rule1_go (q := (false, b1, e1, w1, vs)) hKd hno (hRP.trans (by rw [hdr, hp]; exact rp_wn hW)), rfl, g_x, bb1, be1, hR1, (fun z => by cases z), hF⟩ hX (by (try dsimp only); omega) (by (try dsimp only); omega) d_GR_addRule_76
  have hk6 := kd_le (tx := tx) (b := b) (e := e0)
  obtain ⟨K, hKd⟩ : ∃ K, kd tx b e0 = K := ⟨_, rfl⟩
  rw [hKd] at hk6
  obtain ⟨a1, a2, g_R, g_a1, g_a2, bcnt, bkf, bnf⟩ := id hR
  refine lv_aload_n hx hb d_GR_addRule_0 rfl (lv_at hl 1 rfl) ?_
  have hzA := hI.2.2.2.1
  refine f_calli hI (f_runS C hI (c_GR_kindBegunBy l G h _ x t b e0 w0 tn tx g_x hT1 hFm bb be) gm_GR_kindBegunBy w_439 w_438 rfl hl.1 rfl (Nat.le_of_ble_eq_true rfl) ⟨Nat.le_of_ble_eq_true rfl, Nat.le_of_ble_eq_true rfl⟩ d_GR_addRule_1 ⟨by first | exact Nat.le_of_ble_eq_true rfl | ((try dsimp only); omega), by first | exact Nat.le_of_ble_eq_true rfl | ((try dsimp only); omega)⟩) (fun r_31 h9 H9 locs hp9 hX9 hz9 hI => ?_)
  obtain ⟨hz9q, hF9⟩ := hp9
  have hX := fX.tr (Nat.le_trans (Nat.le_of_eq hsz.symm) hzA) hX hX9
  rw [hKd] at hz9q
  subst hz9q
  have g_x := hF9 _ _ _ _ g_x (by decide)
  have hR := hR.keepF hF9 (by decide) (by decide) (by decide)
  obtain ⟨a1, a2, g_R, g_a1, g_a2, bcnt, bkf, bnf⟩ := id hR
  have hF := hF.tr (hF9.mono (fun r9 _ z => (by simp [inR] at z ⊢; omega : inR [24, 25, 28, 29, 30] r9 _)))
  by_cases hK9 : K = 6
  · refine f_asi (show oK K = -1 from if_pos hK9) ?_
    refine lv_istore_n (lv' := [(2, .int (-1)), (0, .ref R), (1, .ref x)]) hx hb d_GR_addRule_4 rfl hl (by decide) rfl (fun ls hl => ?_)
    refine lv_iload_n hx hb d_GR_addRule_5 rfl (lv_at hl 0 rfl) ?_
    refine lv_iconst (v := (-1)) hx hb d_GR_addRule_6 (by decide) ?_
    refine lv_icmp_eq (tgt := 18) hx hb d_GR_addRule_7 (by decide) (fun c_32 => ?_) (fun c_32 => absurd rfl c_32)
    refine lv_iconst (v := 0) hx hb d_GR_addRule_18 (by decide) ?_
    exact f_zret C hr rfl hI ⟨false, b, e0, w0, (0, []), kf, nf, L.length, rule1_no (by rw [hKd]; exact Or.inl hK9), rfl, g_x, bb, be, hR, (fun z => by cases z), hF⟩ hX (by (try dsimp only); omega) (by (try dsimp only); omega) d_GR_addRule_19
  · refine f_asi (show oK K = nI K from if_neg hK9) ?_
    have hK6 : K < 6 := by omega
    refine lv_istore_n (lv' := [(2, .int (nI K)), (0, .ref R), (1, .ref x)]) hx hb d_GR_addRule_4 rfl hl (by decide) rfl (fun ls hl => ?_)
    refine lv_iload_n hx hb d_GR_addRule_5 rfl (lv_at hl 0 rfl) ?_
    refine lv_iconst (v := (-1)) hx hb d_GR_addRule_6 (by decide) ?_
    refine lv_icmp_eq (tgt := 18) hx hb d_GR_addRule_7 (by decide) (fun c_33 => absurd c_33 (n_m1 (by omega))) (fun c_33 => ?_)
    refine lv_aload_n hx hb d_GR_addRule_10 rfl (lv_at hl 1 rfl) ?_
    refine lv_iload_n hx hb d_GR_addRule_11 rfl (lv_at hl 0 rfl) ?_
    refine f_calli hI (f_runV C hI (c_RU_mayBegin l G h9 _ R L.length 28 29 30 kf nf hR K hK6) gm_RU_mayBegin w_457 w_458 w_456 g_R rfl rfl rfl hl.1 rfl (Nat.le_of_ble_eq_true rfl) ⟨Nat.le_of_ble_eq_true rfl, Nat.le_of_ble_eq_true rfl⟩ d_GR_addRule_12 ⟨by first | exact Nat.le_of_ble_eq_true rfl | ((try dsimp only); omega), by first | exact Nat.le_of_ble_eq_true rfl | ((try dsimp only); omega)⟩) (fun r_34 h8 H9 locs hp9 hX9 hz9 hI => ?_)
    obtain ⟨hq9, e9f⟩ := hp9
    rw [e9f] at hI
    clear hX9 e9f
    rcases hq9 with ⟨rfl, hM⟩ | ⟨rfl, hM⟩
    · have hno := (mb_no hrep hK6 bL).mp hM
      refine lv_if_ne (tgt := 20) hx hb d_GR_addRule_15 (by decide) (fun c_35 => ?_) (fun c_35 => absurd c_35 (by decide))
      refine lv_aload_n hx hb d_GR_addRule_20 rfl (lv_at hl 1 rfl) ?_
      refine lv_iload_n hx hb d_GR_addRule_21 rfl (lv_at hl 0 rfl) ?_
      have h40 : L.length < 40 := Nat.lt_of_le_of_ne bL (fun z => hno (Or.inr (Or.inl z)))
      have hzA := hI.2.2.2.1
      refine f_callv hI (f_runV C hI (c_RU_begin l G h9 _ R L.length kf nf hR K hK6 h40) gm_RU_begin w_465 w_466 w_464 g_R rfl rfl rfl hl.1 rfl (Nat.le_of_ble_eq_true rfl) ⟨Nat.le_of_ble_eq_true rfl, Nat.le_of_ble_eq_true rfl⟩ d_GR_addRule_22 ⟨by first | exact Nat.le_of_ble_eq_true rfl | ((try dsimp only); omega), by first | exact Nat.le_of_ble_eq_true rfl | ((try dsimp only); omega)⟩) (fun h9 H9 locs hp9 hX9 hz9 hI => ?_)
      obtain ⟨hR1, hF9⟩ := hp9
      have hX := fX.tr (Nat.le_trans (Nat.le_of_eq hsz.symm) hzA) hX hX9
      have g_x := hF9 _ _ _ _ g_x (by decide)
      have hF := hF.tr (hF9.mono (fun r9 _ z => (by simp [inR] at z ⊢; omega : inR [24, 25, 28, 29, 30] r9 _)))
      have hzN := hI.2.2.2.1
      refine f_new (ci := 7) (C := "DutyRules$Words") (T := T_WO) (N := 4) (N2 := 4) (fs := [.null, .int 0, .int 0, .int 0]) hx hb (fun w q => hT w (s_WO w q)) t_WO k_WO hown (hT _ w_441) (hT _ w_305) (hT _ w_17) hK hI rfl (fun j hj => by rcases (show j = 0 ∨ j = 1 ∨ j = 2 ∨ j = 3 by omega) with rfl | rfl | rfl | rfl <;> rfl) 25 0 (by (try dsimp only); omega) (by (try dsimp only); omega) d_GR_addRule_25 (fun q_37 H eq_37 zq_37 nq_37 hI => ?_)
      generalize eh_38 : fU h9 q_37 (25, 0, .inr (7, [.null, .int 0, .int 0, .int 0])) = h_38 at hI
      have hX := hX.new (e := .inr (7, [.null, .int 0, .int 0, .int 0])) (r := 25) (o := 0) nq_37 (by omega); rw [eh_38] at hX
      have hF := hF.new (c := (25, 0, .inr (7, [.null, .int 0, .int 0, .int 0]))) nq_37; rw [eh_38] at hF
      have hW9 : fF (inR []) h9 h_38 := by rw [← eh_38]; exact fF.rf.new nq_37
      have hR1 := hR1.keepF hW9 (by decide) (by decide) (by decide)
      have g_x : h_38 x = some (24, 0, .inr (7, [.ref t, .int (nI b), .int (nI e0), .int (nI w0)])) := (congrFun eh_38 x).symm.trans (fU_keep g_x (f_neN g_x nq_37))
      have g_q_37 : h_38 q_37 = some (25, 0, .inr (7, [.null, .int 0, .int 0, .int 0])) := (congrFun eh_38 q_37).symm.trans (fU_self _ _ _)
      refine lv_dup hx hb d_GR_addRule_28 rfl ?_
      refine lv_iload_n hx hb d_GR_addRule_29 rfl (lv_at hl 0 rfl) ?_
      refine f_callq hI (f_runS C hI (c_GR_formOf l G h_38 _ K (by omega)) gm_GR_formOf w_443 w_442 rfl hl.1 rfl (Nat.le_of_ble_eq_true rfl) ⟨Nat.le_of_ble_eq_true rfl, Nat.le_of_ble_eq_true rfl⟩ d_GR_addRule_30 ⟨by first | exact Nat.le_of_ble_eq_true rfl | ((try dsimp only); omega), by first | exact Nat.le_of_ble_eq_true rfl | ((try dsimp only); omega)⟩) (fun r_39 h8 H9 locs hp9 hX9 hz9 hI => ?_)
      obtain ⟨rfl, e9f⟩ := hp9
      rw [e9f] at hI
      clear hX9 e9f
      have hzA := hI.2.2.2.1
      refine f_callv hI (f_runI C hI (c_WO_init l G h_38 _ q_37 (G.2.2.2 (fS K)) 25 (fn K) 0 0 (fS K) (fx K) g_q_37 ((hFm.keepX hX) K (by omega)) (by decide) (by decide) (by decide)) gm_WO_init w_361 rfl w_451 rfl hl.1 rfl (Nat.le_of_ble_eq_true rfl) ⟨Nat.le_of_ble_eq_true rfl, Nat.le_of_ble_eq_true rfl⟩ d_GR_addRule_33 ⟨by first | exact Nat.le_of_ble_eq_true rfl | ((try dsimp only); omega), by first | exact Nat.le_of_ble_eq_true rfl | ((try dsimp only); omega)⟩) (fun h9 H9 locs hp9 hX9 hz9 hI => ?_)
      obtain ⟨g_q_37, hF9⟩ := hp9
      have hX := fX.tr (Nat.le_trans (Nat.le_of_eq hsz.symm) hzA) hX hX9
      have g_x := hF9 _ _ _ _ g_x (by decide)
      have hR1 := hR1.keepF hF9 (by decide) (by decide) (by decide)
      have hF := hF.tr (hF9.mono (fun r9 _ z => (by simp [inR] at z ⊢; omega : inR [24, 25, 28, 29, 30] r9 _)))
      have g_q_37 : h9 q_37 = some (25, 0, .inr (7, [.ref (G.2.2.2 (fS K)), .int (nI (wq K 0)), .int (nI (wz K 0)), .int 0])) := g_q_37
      refine lv_astore_n (lv' := [(3, .ref q_37), (2, .int (nI K)), (0, .ref R), (1, .ref x)]) hx hb d_GR_addRule_36 rfl hl (by decide) rfl (fun ls hl => ?_)
      refine lv_iconst (v := 0) hx hb d_GR_addRule_37 (by decide) ?_
      refine lv_istore (lv' := [(4, .int 0), (3, .ref q_37), (2, .int (nI K)), (0, .ref R), (1, .ref x)]) hx hb d_GR_addRule_38 hl (by decide) rfl (fun ls hl => ?_)
      refine lv_iconst (v := 0) hx hb d_GR_addRule_40 (by decide) ?_
      refine lv_istore (lv' := [(5, .int 0), (4, .int 0), (3, .ref q_37), (2, .int (nI K)), (0, .ref R), (1, .ref x)]) hx hb d_GR_addRule_41 hl (by decide) rfl (fun ls hl => ?_)
      have hf0 := fm_0 K hK6
      have hpo := plg_ok K hK6
      have hfl := fn_le K
      have hT9 := hT1.keepF hF (by decide) (by decide)
      have hT8 := (hFm.keepX hX) K hK6
      have hWK := kd_eq hKd hK6
      obtain ⟨tb, tc, tf, tfs, g_t, g_tb, htc, btn, htx⟩ := id hT9
      refine lv_iload hx hb d_GR_addRule_43 (lv_at hl 0 rfl) ?_
      refine lv_bipush (v := 9) hx hb d_GR_addRule_45 (by decide) ?_
      refine lv_icmp_ge (tgt := 125) hx hb d_GR_addRule_47 (by decide) (fun c_41 => absurd c_41 (by decide)) (fun c_41 => ?_)
      refine lv_aload_n hx hb d_GR_addRule_50 rfl (lv_at hl 2 rfl) ?_
      refine f_calli hI (f_runV C hI (c_WO_isEnd l G h9 _ q_37 (G.2.2.2 (fS K)) 25 (wq K 0) (wz K 0) 0 g_q_37 (by omega) (by omega)) gm_WO_isEnd w_432 w_433 w_431 g_q_37 rfl rfl rfl hl.1 rfl (Nat.le_of_ble_eq_true rfl) ⟨Nat.le_of_ble_eq_true rfl, Nat.le_of_ble_eq_true rfl⟩ d_GR_addRule_51 ⟨by first | exact Nat.le_of_ble_eq_true rfl | ((try dsimp only); omega), by first | exact Nat.le_of_ble_eq_true rfl | ((try dsimp only); omega)⟩) (fun r_42 h8 H9 locs hp9 hX9 hz9 hI => ?_)
      obtain ⟨hq9, e9f⟩ := hp9
      rw [e9f] at hI
      clear hX9 e9f
      rcases hq9 with ⟨rfl, hE⟩ | ⟨rfl, hE⟩
      · skip
        exact absurd hE (by omega)
      · skip
        refine lv_if_ne (tgt := 125) hx hb d_GR_addRule_54 (by decide) (fun c_43 => absurd (by decide) c_43) (fun c_43 => ?_)
        refine lv_aload_n hx hb d_GR_addRule_57 rfl (lv_at hl 2 rfl) ?_
        refine f_calli hI (f_runV C hI (c_WO_firstByte l G h9 _ q_37 (G.2.2.2 (fS K)) 25 (wq K 0) (wz K 0) 0 (fn K) 0 0 (fS K) (fx K) g_q_37 hT8 (by omega)) gm_WO_firstByte w_469 w_470 w_468 g_q_37 rfl rfl rfl hl.1 rfl (Nat.le_of_ble_eq_true rfl) ⟨Nat.le_of_ble_eq_true rfl, Nat.le_of_ble_eq_true rfl⟩ d_GR_addRule_58 ⟨by first | exact Nat.le_of_ble_eq_true rfl | ((try dsimp only); omega), by first | exact Nat.le_of_ble_eq_true rfl | ((try dsimp only); omega)⟩) (fun r_44 h8 H9 locs hp9 hX9 hz9 hI => ?_)
        obtain ⟨rfl, e9⟩ := hp9
        rw [e9] at hI
        clear hX9 e9
        refine f_asi (congrArg nI (if_pos (show wq K 0 < fn K by omega))) ?_
        refine f_calli hI (f_runS C hI (c_GR_isSlot l G h9 _ (nI (fx K (wq K 0)))) gm_GR_isSlot w_473 w_472 rfl hl.1 rfl (Nat.le_of_ble_eq_true rfl) ⟨Nat.le_of_ble_eq_true rfl, Nat.le_of_ble_eq_true rfl⟩ d_GR_addRule_61 ⟨by first | exact Nat.le_of_ble_eq_true rfl | ((try dsimp only); omega), by first | exact Nat.le_of_ble_eq_true rfl | ((try dsimp only); omega)⟩) (fun r_45 h8 H9 locs hp9 hX9 hz9 hI => ?_)
        obtain ⟨rfl, e9⟩ := hp9
        rw [e9] at hI
        clear hX9 e9
        refine f_asi ((slot_n (by have := fx_lt K (wq K 0); omega)).trans (if_neg hf0.2.2.2.2.2.1)) ?_
        refine lv_if_ne (tgt := 77) hx hb d_GR_addRule_64 (by decide) (fun c_46 => absurd (by decide) c_46) (fun c_46 => ?_)
        refine lv_aload_n hx hb d_GR_addRule_67 rfl (lv_at hl 5 rfl) ?_
        refine lv_aload_n hx hb d_GR_addRule_68 rfl (lv_at hl 2 rfl) ?_
        refine f_calli hI (f_runV C hI (c_WO_isSameWordAs l G h9 _ x t 24 b e0 (nI w0) tn 26 27 0 tx g_x hT9 q_37 (G.2.2.2 (fS K)) 25 (wq K 0) (wz K 0) 0 (fn K) 0 0 (fS K) (fx K) g_q_37 hT8 bb be (by omega) (by omega)) gm_WO_isSameWordAs w_453 w_454 w_452 g_x rfl rfl rfl hl.1 rfl (Nat.le_of_ble_eq_true rfl) ⟨Nat.le_of_ble_eq_true rfl, Nat.le_of_ble_eq_true rfl⟩ d_GR_addRule_69 ⟨by first | exact Nat.le_of_ble_eq_true rfl | ((try dsimp only); omega), by first | exact Nat.le_of_ble_eq_true rfl | ((try dsimp only); omega)⟩) (fun r_47 h8 H9 locs hp9 hX9 hz9 hI => ?_)
        obtain ⟨hq9, e9f⟩ := hp9
        rw [e9f] at hI
        clear hX9 e9f
        rcases hq9 with ⟨rfl, hW⟩ | ⟨rfl, hW⟩
        · skip
          refine lv_if_ne (tgt := 111) hx hb d_GR_addRule_72 (by decide) (fun c_48 => ?_) (fun c_48 => absurd c_48 (by decide))
          refine lv_aload_n hx hb d_GR_addRule_111 rfl (lv_at hl 2 rfl) ?_
          have hzA := hI.2.2.2.1
          refine f_callv hI (f_runV C hI (c_WO_advance l G h9 _ q_37 (G.2.2.2 (fS K)) 25 (wq K 0) (wz K 0) 0 (fn K) 0 0 (fS K) (fx K) g_q_37 ((hFm.keepX hX) K hK6) (by decide) (by decide) (by decide) (by omega)) gm_WO_advance w_365 w_366 w_493 g_q_37 rfl rfl rfl hl.1 rfl (Nat.le_of_ble_eq_true rfl) ⟨Nat.le_of_ble_eq_true rfl, Nat.le_of_ble_eq_true rfl⟩ d_GR_addRule_112 ⟨by first | exact Nat.le_of_ble_eq_true rfl | ((try dsimp only); omega), by first | exact Nat.le_of_ble_eq_true rfl | ((try dsimp only); omega)⟩) (fun h9 H9 locs hp9 hX9 hz9 hI => ?_)
          obtain ⟨g_q_37, hF9⟩ := hp9
          have hX := fX.tr (Nat.le_trans (Nat.le_of_eq hsz.symm) hzA) hX hX9
          have g_x := hF9 _ _ _ _ g_x (by decide)
          have hR1 := hR1.keepF hF9 (by decide) (by decide) (by decide)
          have hF := hF.tr (hF9.mono (fun r9 _ z => (by simp [inR] at z ⊢; omega : inR [24, 25, 28, 29, 30] r9 _)))
          have g_q_37 : h9 q_37 = some (25, 0, .inr (7, [.ref (G.2.2.2 (fS K)), .int (nI (wq K (0 + 1))), .int (nI (wz K (0 + 1))), .int (nI (0 + 1))])) := g_q_37
          have hT9 := hT1.keepF hF (by decide) (by decide)
          refine lv_aload_n hx hb d_GR_addRule_115 rfl (lv_at hl 5 rfl) ?_
          have hzA := hI.2.2.2.1
          refine f_callv hI (f_runV C hI (c_WO_advance l G h9 _ x t 24 b e0 (nI w0) tn 26 27 0 tx g_x hT9 (by decide) (by decide) (by decide) be) gm_WO_advance w_365 w_366 w_493 g_x rfl rfl rfl hl.1 rfl (Nat.le_of_ble_eq_true rfl) ⟨Nat.le_of_ble_eq_true rfl, Nat.le_of_ble_eq_true rfl⟩ d_GR_addRule_116 ⟨by first | exact Nat.le_of_ble_eq_true rfl | ((try dsimp only); omega), by first | exact Nat.le_of_ble_eq_true rfl | ((try dsimp only); omega)⟩) (fun h9 H9 locs hp9 hX9 hz9 hI => ?_)
          obtain ⟨g_x, hF9⟩ := hp9
          have hX := fX.tr (Nat.le_trans (Nat.le_of_eq hsz.symm) hzA) hX hX9
          have g_q_37 := hF9 _ _ _ _ g_q_37 (by decide)
          have hR1 := hR1.keepF hF9 (by decide) (by decide) (by decide)
          have hF := hF.tr (hF9.mono (fun r9 _ z => (by simp [inR] at z ⊢; omega : inR [24, 25, 28, 29, 30] r9 _)))
          rw [nI_1] at g_x
          refine lv_iinc (v := 1) (lv' := [(5, .int 1), (4, .int 0), (3, .ref q_37), (2, .int (nI K)), (0, .ref R), (1, .ref x)]) hx hb d_GR_addRule_119 hl (k := 0) rfl (by decide) (by decide) rfl (fun ls hl => ?_)
          refine lv_goto (tgt := 43) hx hb d_GR_addRule_122 (by decide) ?_
          have eRP : rp tx tn K (pl K) (wb tx tn e0) (we tx tn (wb tx tn e0)) (w0 + 1) [] = rp tx tn K ((pl K).drop 0) (wb tx tn e0) (we tx tn (wb tx tn e0)) (w0 + 1) [] := rfl
          refine J43 K q_37 hKd hK6 hno (plL K) 0 (by omega) [] _ _ _ nf (hpo.2.1).symm eRP hew.1 hew.2 (rep4_k hrep (Nat.le_refl _)) (fun i hi => absurd hi (Nat.not_lt_zero i)) _ _ _ _ _ (by (try dsimp only); omega) (by (try dsimp only); omega) g_x g_q_37 hR1 hF hX hI ls ?_
          exact lv_sub hl [4, 5, 3, 2, 1, 0] rfl
        · skip
          exact absurd ((sm_eq hf0.2.2.2.1 hf0.2.2.2.2.1).mpr hWK) hW
    · have hyes : r1no K L := Classical.byContradiction (fun z => hM ((mb_no hrep hK6 bL).mpr z))
      refine lv_if_ne (tgt := 20) hx hb d_GR_addRule_15 (by decide) (fun c_51 => absurd (by decide) c_51) (fun c_51 => ?_)
      refine lv_iconst (v := 0) hx hb d_GR_addRule_18 (by decide) ?_
      exact f_zret C hr rfl hI ⟨false, b, e0, w0, (0, []), kf, nf, L.length, rule1_no (by rw [hKd]; exact hyes), rfl, g_x, bb, be, hR, (fun z => by cases z), hF⟩ hX (by (try dsimp only); omega) (by (try dsimp only); omega) d_GR_addRule_19
