theorem gm_GR_fill : gM y_GR_fill b_GR_fill 3 (some .boolean) 2 := ⟨w_430, w_18, ⟨by decide, by decide⟩, by decide +kernel⟩
set_option maxHeartbeats 4000000 in
set_option maxRecDepth 100000 in
/-- GR_fill  -/
theorem c_GR_fill (l : Launch) (G : gG) (h : fH) (sz : Nat) (x t b e0 w0 tn : Nat) (tx : Nat → Nat) (g_x : h x = some (24, 0, .inr (7, [.ref t, .int (nI b), .int (nI e0), .int (nI w0)]))) (hT1 : sT G h 26 27 0 t tx tn) (hFm : fmS G h) (bb : b ≤ e0) (be : e0 ≤ tn) (hlt : b < tn → b < e0) (R : Nat) (kf nf : Nat → Nat) (hR : rU G h 28 29 30 R 0 kf nf) : cM l y_GR_fill b_GR_fill 3 (some .boolean) { frames := 8, cells := 287, slots := 1148, locals := 174 } G [.ref R, .ref x] h sz (cQi G h sz (fun z h' => ∃ (ok : Bool) (w2 b2 e2 : Nat) (L2 : List rlT) (kf2 nf2 : Nat → Nat) (c2 : Nat), rdS tx tn 41 [] b e0 w0 = (ok, w2, L2) ∧ z = (if ok = true then 1 else 0) ∧ h' x = some (24, 0, .inr (7, [.ref t, .int (nI b2), .int (nI e2), .int (nI w2)])) ∧ rU G h' 28 29 30 R c2 kf2 nf2 ∧ (ok = true → c2 = L2.length ∧ rep4 kf2 nf2 L2) ∧ fF (inR [24, 25, 28, 29, 30]) h h')) := by
  refine f_start (by decide) (Nat.le_of_ble_eq_true rfl) ?_
  intro p e s m below meth c ls C hr hsz hI hl
  obtain ⟨hx, hb, hml, hown, hnm, hlk, hT, hG, hZ⟩ := id C
  have hK := hG.1
  have hX : fX h sz h := fX.rf
  have hl : lv_has ls 3 [(0, .ref R), (1, .ref x)] := hl
  have hF : fF (inR [24, 25, 28, 29, 30]) h h := fF.rf
  have btn : tn < 2 ^ 28 := by obtain ⟨_, _, _, _, _, _, _, q9, _⟩ := id hT1; exact q9
  have J2 : ∀ (k i : Nat), i + k = 41 → ∀ (L1 : List rlT) (b1 e1 w1 : Nat) (kf1 nf1 : Nat → Nat), rdS tx tn 41 [] b e0 w0 = rdS tx tn k L1 b1 e1 w1 → b1 ≤ e1 → e1 ≤ tn → (b1 < tn → b1 < e1) → rep4 kf1 nf1 L1 → ∀ (h1 : fH) (H : Heap) (locs : List Loc) (cs ss : Nat), cs ≤ 7 * i → ss ≤ 28 * i → h1 x = some (24, 0, .inr (7, [.ref t, .int (nI b1), .int (nI e1), .int (nI w1)])) → rU G h1 28 29 30 R L1.length kf1 nf1 → fF (inR [24, 25, 28, 29, 30]) h h1 → fX h sz h1 → fI G.1 g_cl (fA h sz) s.heap h1 H locs → ∀ ls : Array Slot, lv_has ls 3 [(0, .ref R), (1, .ref x), (2, .int (nI i))] → W p l e { frames := 8, cells := 287, slots := 1148, locals := 174 } s m ([.ref R, .ref x] : List Value).toArray below meth c H locs cs ss (MQ below (cQi G h sz (fun z h' => ∃ (ok : Bool) (w2 b2 e2 : Nat) (L2 : List rlT) (kf2 nf2 : Nat → Nat) (c2 : Nat), rdS tx tn 41 [] b e0 w0 = (ok, w2, L2) ∧ z = (if ok = true then 1 else 0) ∧ h' x = some (24, 0, .inr (7, [.ref t, .int (nI b2), .int (nI e2), .int (nI w2)])) ∧ rU G h' 28 29 30 R c2 kf2 nf2 ∧ (ok = true → c2 = L2.length ∧ rep4 kf2 nf2 L2) ∧ fF (inR [24, 25, 28, 29, 30]) h h')) ([.ref R, .ref x] : List Value).toArray s 287 1148 (fA h sz)) (F0 m 2 ls []) := by
    intro k
    induction k with
    | zero =>
      intro i hi L1 b1 e1 w1 kf1 nf1 hrd bb1 be1 hlt1 hrep1 h1 H locs cs ss hcs hss g_x hR1 hF hX hI ls hl
      refine lv_iload_n hx hb d_GR_fill_2 rfl (lv_at hl 2 rfl) ?_
      refine lv_bipush (v := 40) hx hb d_GR_fill_3 (by decide) ?_
      refine lv_icmp_gt (tgt := 31) hx hb d_GR_fill_5 (by decide) (fun c_1 => ?_) (fun c_1 => absurd ((n_lt (a := 40) (b := i) (by omega) (by omega)).mpr (by omega)) c_1)
      refine lv_iconst (v := 1) hx hb d_GR_fill_31 (by decide) ?_
      exact f_zret C hr rfl hI ⟨true, w1, b1, e1, L1, kf1, nf1, L1.length, hrd.trans (rfl), rfl, g_x, hR1, (fun _ => ⟨rfl, hrep1⟩), hF⟩ hX (by (try dsimp only); omega) (by (try dsimp only); omega) d_GR_fill_32
    | succ k ih =>
      intro i hi L1 b1 e1 w1 kf1 nf1 hrd bb1 be1 hlt1 hrep1 h1 H locs cs ss hcs hss g_x hR1 hF hX hI ls hl
      have ih : ∀ i : Nat, i + k = 41 → ∀ (L1 : List rlT) (b1 e1 w1 : Nat) (kf1 nf1 : Nat → Nat), rdS tx tn 41 [] b e0 w0 = rdS tx tn k L1 b1 e1 w1 → b1 ≤ e1 → e1 ≤ tn → (b1 < tn → b1 < e1) → rep4 kf1 nf1 L1 → ∀ (h1 : fH) (H : Heap) (locs : List Loc) (cs ss : Nat), cs ≤ 7 * i → ss ≤ 28 * i → h1 x = some (24, 0, .inr (7, [.ref t, .int (nI b1), .int (nI e1), .int (nI w1)])) → rU G h1 28 29 30 R L1.length kf1 nf1 → fF (inR [24, 25, 28, 29, 30]) h h1 → fX h sz h1 → fI G.1 g_cl (fA h sz) s.heap h1 H locs → ∀ ls : Array Slot, lv_has ls 3 [(0, .ref R), (1, .ref x), (2, .int (nI i))] → W p l e { frames := 8, cells := 287, slots := 1148, locals := 174 } s m ([.ref R, .ref x] : List Value).toArray below meth c H locs cs ss (MQ below (cQi G h sz (fun z h' => ∃ (ok : Bool) (w2 b2 e2 : Nat) (L2 : List rlT) (kf2 nf2 : Nat → Nat) (c2 : Nat), rdS tx tn 41 [] b e0 w0 = (ok, w2, L2) ∧ z = (if ok = true then 1 else 0) ∧ h' x = some (24, 0, .inr (7, [.ref t, .int (nI b2), .int (nI e2), .int (nI w2)])) ∧ rU G h' 28 29 30 R c2 kf2 nf2 ∧ (ok = true → c2 = L2.length ∧ rep4 kf2 nf2 L2) ∧ fF (inR [24, 25, 28, 29, 30]) h h')) ([.ref R, .ref x] : List Value).toArray s 287 1148 (fA h sz)) (F0 m 2 ls []) := ih
      refine lv_iload_n hx hb d_GR_fill_2 rfl (lv_at hl 2 rfl) ?_
      refine lv_bipush (v := 40) hx hb d_GR_fill_3 (by decide) ?_
      refine lv_icmp_gt (tgt := 31) hx hb d_GR_fill_5 (by decide) (fun c_2 => absurd c_2 (fun q => absurd ((n_lt (a := 40) (b := i) (by omega) (by omega)).mp q) (by omega))) (fun c_2 => ?_)
      refine lv_aload_n hx hb d_GR_fill_8 rfl (lv_at hl 1 rfl) ?_
      refine f_calli hI (f_runV C hI (c_WO_isEnd l G h1 _ x t 24 b1 e1 (nI w1) g_x (by omega) (by omega)) gm_WO_isEnd w_432 w_433 w_431 g_x rfl rfl rfl hl.1 rfl (Nat.le_of_ble_eq_true rfl) ⟨Nat.le_of_ble_eq_true rfl, Nat.le_of_ble_eq_true rfl⟩ d_GR_fill_9 ⟨by first | exact Nat.le_of_ble_eq_true rfl | ((try dsimp only); omega), by first | exact Nat.le_of_ble_eq_true rfl | ((try dsimp only); omega)⟩) (fun r_3 h8 H9 locs hp9 hX9 hz9 hI => ?_)
      obtain ⟨hq9, e9f⟩ := hp9
      rw [e9f] at hI
      clear hX9 e9f
      rcases hq9 with ⟨rfl, hE⟩ | ⟨rfl, hE⟩
      · skip
        refine lv_if_ne (tgt := 31) hx hb d_GR_fill_12 (by decide) (fun c_4 => ?_) (fun c_4 => absurd c_4 (by decide))
        refine lv_iconst (v := 1) hx hb d_GR_fill_31 (by decide) ?_
        exact f_zret C hr rfl hI ⟨true, w1, b1, e1, L1, kf1, nf1, L1.length, hrd.trans (rdS_end (by omega)), rfl, g_x, hR1, (fun _ => ⟨rfl, hrep1⟩), hF⟩ hX (by (try dsimp only); omega) (by (try dsimp only); omega) d_GR_fill_32
      · skip
        refine lv_if_ne (tgt := 31) hx hb d_GR_fill_12 (by decide) (fun c_5 => absurd (by decide) c_5) (fun c_5 => ?_)
        refine lv_aload_n hx hb d_GR_fill_15 rfl (lv_at hl 0 rfl) ?_
        refine lv_aload_n hx hb d_GR_fill_16 rfl (lv_at hl 1 rfl) ?_
        have hzA := hI.2.2.2.1
        have hT9 := hT1.keepF hF (by decide) (by decide)
        have hbn : b1 < tn := by omega
        refine f_calli hI (f_runS C hI (c_GR_addRule l G h1 _ x t b1 e1 w1 tn tx g_x hT9 (hFm.keepX hX) bb1 be1 R L1 kf1 nf1 hR1 hrep1) gm_GR_addRule w_436 w_435 rfl hl.1 rfl (Nat.le_of_ble_eq_true rfl) ⟨Nat.le_of_ble_eq_true rfl, Nat.le_of_ble_eq_true rfl⟩ d_GR_fill_17 ⟨by first | exact Nat.le_of_ble_eq_true rfl | ((try dsimp only); omega), by first | exact Nat.le_of_ble_eq_true rfl | ((try dsimp only); omega)⟩) (fun r_6 h9 H9 locs hp9 hX9 hz9 hI => ?_)
        obtain ⟨ok, b2, e2, w2, rl, kf2, nf2, c2, hru, rfl, g_x, bb2, be2, hR1, hok, hF9⟩ := hp9
        have hX := fX.tr (Nat.le_trans (Nat.le_of_eq hsz.symm) hzA) hX hX9
        have hF := hF.tr hF9
        rcases ok with _ | _
        · refine f_asi (show (if false = true then (1 : Int32) else 0) = 0 from rfl) ?_
          refine lv_if_ne (tgt := 25) hx hb d_GR_fill_20 (by decide) (fun c_7 => absurd (by decide) c_7) (fun c_7 => ?_)
          refine lv_iconst (v := 0) hx hb d_GR_fill_23 (by decide) ?_
          exact f_zret C hr rfl hI ⟨false, w2, b2, e2, L1, kf2, nf2, c2, hrd.trans (rdS_bad hbn hru), rfl, g_x, hR1, (fun z => by cases z), hF⟩ hX (by (try dsimp only); omega) (by (try dsimp only); omega) d_GR_fill_24
        · refine f_asi (show (if true = true then (1 : Int32) else 0) = 1 from rfl) ?_
          obtain ⟨hc2, hrep2⟩ := hok rfl
          rw [hc2, show L1.length + 1 = (L1 ++ [rl]).length by simp] at hR1
          refine lv_if_ne (tgt := 25) hx hb d_GR_fill_20 (by decide) (fun c_8 => ?_) (fun c_8 => absurd c_8 (by decide))
          refine lv_iinc (v := nI (i + 1)) (lv' := [(2, .int (nI (i + 1))), (0, .ref R), (1, .ref x)]) hx hb d_GR_fill_25 hl (k := 2) rfl (f_inc1 _) (by decide) rfl (fun ls hl => ?_)
          refine lv_goto (tgt := 2) hx hb d_GR_fill_28 (by decide) ?_
          refine ih (i + 1) (by omega) (L1 ++ [rl]) b2 e2 w2 kf2 nf2 (hrd.trans (rdS_ok hbn hru)) bb2 be2 (rule1_end be1 hru) hrep2 _ _ _ _ _ (by (try dsimp only); omega) (by (try dsimp only); omega) g_x hR1 hF hX hI ls ?_
          exact lv_sub hl [1, 2, 0] rfl
  refine lv_iconst (v := 0) hx hb d_GR_fill_0 (by decide) ?_
  refine lv_istore_n (lv' := [(2, .int 0), (0, .ref R), (1, .ref x)]) hx hb d_GR_fill_1 rfl hl (by decide) rfl (fun ls hl => ?_)
  refine J2 41 0 (by omega) [] b e0 w0 kf nf rfl bb be hlt (rep4_0 kf nf) _ _ _ _ _ (by (try dsimp only); omega) (by (try dsimp only); omega) g_x hR hF hX hI ls ?_
  exact lv_sub hl [1, 2, 0] rfl
