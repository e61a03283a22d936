theorem gm_GR_kindBegunBy : gM y_GR_kindBegunBy b_GR_kindBegunBy 2 (some .int) 1 := ⟨w_440, w_18, ⟨by decide, by decide⟩, by decide +kernel⟩
set_option maxHeartbeats 4000000 in
set_option maxRecDepth 100000 in
/-- GR_kindBegunBy  -/
theorem c_GR_kindBegunBy (l : Launch) (G : gG) (h : fH) (sz : Nat) (x t b e0 w0 tn : Nat) (tx : Nat → Nat) (g_x : h x = some (24, 0, .inr (7, [.ref t, .int (nI b), .int (nI e0), .int (nI w0)]))) (hT1 : sT G h 26 27 0 t tx tn) (hFm : fmS G h) (bb : b ≤ e0) (be : e0 ≤ tn) : cM l y_GR_kindBegunBy b_GR_kindBegunBy 2 (some .int) { frames := 6, cells := 6, slots := 24, locals := 127 } G [.ref x] h sz (cQi G h sz (fun z h' => z = oK (kd tx b e0) ∧ fF (inR [25]) h h')) := by
  refine f_start (by decide) (Nat.le_of_ble_eq_true rfl) ?_
  intro p e s m below meth c ls C hr hsz hI hl
  obtain ⟨hx, hb, hml, hown, hnm, hlk, hT, hG, hZ⟩ := id C
  have hK := hG.1
  have hX : fX h sz h := fX.rf
  have hl : lv_has ls 2 [(0, .ref x)] := hl
  have hF : fF (inR [25]) h h := fF.rf
  have J2 : ∀ (k n : Nat), n + k = 6 → kd tx b e0 = fi (fun w => @decide (eqW tx b e0 w) (Classical.propDecidable _)) n k → ∀ (h1 : fH) (H : Heap) (locs : List Loc) (cs ss : Nat), cs ≤ n → ss ≤ 4 * n → h1 x = some (24, 0, .inr (7, [.ref t, .int (nI b), .int (nI e0), .int (nI w0)])) → fF (inR [25]) h h1 → fX h sz h1 → fI G.1 g_cl (fA h sz) s.heap h1 H locs → ∀ ls : Array Slot, lv_has ls 2 [(0, .ref x), (1, .int (nI n))] → W p l e { frames := 6, cells := 6, slots := 24, locals := 127 } s m ([.ref x] : List Value).toArray below meth c H locs cs ss (MQ below (cQi G h sz (fun z h' => z = oK (kd tx b e0) ∧ fF (inR [25]) h h')) ([.ref x] : List Value).toArray s 6 24 (fA h sz)) (F0 m 2 ls []) := by
    intro k
    induction k with
    | zero =>
      intro n hn hk h1 H locs cs ss hcs hss g_x hF hX hI ls hl
      refine lv_iload_n hx hb d_GR_kindBegunBy_2 rfl (lv_at hl 1 rfl) ?_
      refine lv_bipush (v := 6) hx hb d_GR_kindBegunBy_3 (by decide) ?_
      refine lv_icmp_ge (tgt := 34) hx hb d_GR_kindBegunBy_5 (by decide) (fun c_1 => ?_) (fun c_1 => absurd ((n_le (a := 6) (b := n) (by omega) (by omega)).mpr (by omega)) c_1)
      refine lv_iconst (v := (-1)) hx hb d_GR_kindBegunBy_34 (by decide) ?_
      exact f_iret C hr hI ⟨by rw [hk.trans (show fi (fun w => @decide (eqW tx b e0 w) (Classical.propDecidable _)) n 0 = n from rfl), show n = 6 by omega]; rfl, hF⟩ hX (by (try dsimp only); omega) (by (try dsimp only); omega) d_GR_kindBegunBy_35
    | succ k ih =>
      intro n hn hk h1 H locs cs ss hcs hss g_x hF hX hI ls hl
      have ih : ∀ n : Nat, n + k = 6 → kd tx b e0 = fi (fun w => @decide (eqW tx b e0 w) (Classical.propDecidable _)) n k → ∀ (h1 : fH) (H : Heap) (locs : List Loc) (cs ss : Nat), cs ≤ n → ss ≤ 4 * n → h1 x = some (24, 0, .inr (7, [.ref t, .int (nI b), .int (nI e0), .int (nI w0)])) → fF (inR [25]) h h1 → fX h sz h1 → fI G.1 g_cl (fA h sz) s.heap h1 H locs → ∀ ls : Array Slot, lv_has ls 2 [(0, .ref x), (1, .int (nI n))] → W p l e { frames := 6, cells := 6, slots := 24, locals := 127 } s m ([.ref x] : List Value).toArray below meth c H locs cs ss (MQ below (cQi G h sz (fun z h' => z = oK (kd tx b e0) ∧ fF (inR [25]) h h')) ([.ref x] : List Value).toArray s 6 24 (fA h sz)) (F0 m 2 ls []) := ih
      have hf0 := fm_0 n (by omega)
      refine lv_iload_n hx hb d_GR_kindBegunBy_2 rfl (lv_at hl 1 rfl) ?_
      refine lv_bipush (v := 6) hx hb d_GR_kindBegunBy_3 (by decide) ?_
      refine lv_icmp_ge (tgt := 34) hx hb d_GR_kindBegunBy_5 (by decide) (fun c_2 => absurd c_2 (fun q => absurd ((n_le (a := 6) (b := n) (by omega) (by omega)).mp q) (by omega))) (fun c_2 => ?_)
      refine lv_aload_n hx hb d_GR_kindBegunBy_8 rfl (lv_at hl 0 rfl) ?_
      have hzN := hI.2.2.2.1
      refine f_new (ci := 7) (C := "DutyRules$Words") (T := T_WO) (N := 4) (N2 := 4) (fs := [.null, .int 0, .int 0, .int 0]) hx hb (fun w q => hT w (s_WO w q)) t_WO k_WO hown (hT _ w_441) (hT _ w_305) (hT _ w_17) hK hI rfl (fun j hj => by rcases (show j = 0 ∨ j = 1 ∨ j = 2 ∨ j = 3 by omega) with rfl | rfl | rfl | rfl <;> rfl) 25 0 (by (try dsimp only); omega) (by (try dsimp only); omega) d_GR_kindBegunBy_9 (fun q_3 H eq_3 zq_3 nq_3 hI => ?_)
      generalize eh_4 : fU h1 q_3 (25, 0, .inr (7, [.null, .int 0, .int 0, .int 0])) = h_4 at hI
      have hX := hX.new (e := .inr (7, [.null, .int 0, .int 0, .int 0])) (r := 25) (o := 0) nq_3 (by omega); rw [eh_4] at hX
      have hF := hF.new (c := (25, 0, .inr (7, [.null, .int 0, .int 0, .int 0]))) nq_3; rw [eh_4] at hF
      have g_x : h_4 x = some (24, 0, .inr (7, [.ref t, .int (nI b), .int (nI e0), .int (nI w0)])) := (congrFun eh_4 x).symm.trans (fU_keep g_x (f_neN g_x nq_3))
      have g_q_3 : h_4 q_3 = some (25, 0, .inr (7, [.null, .int 0, .int 0, .int 0])) := (congrFun eh_4 q_3).symm.trans (fU_self _ _ _)
      refine lv_dup hx hb d_GR_kindBegunBy_12 rfl ?_
      refine lv_iload_n hx hb d_GR_kindBegunBy_13 rfl (lv_at hl 1 rfl) ?_
      refine f_callq hI (f_runS C hI (c_GR_formOf l G h_4 _ n (by omega)) gm_GR_formOf w_443 w_442 rfl hl.1 rfl (Nat.le_of_ble_eq_true rfl) ⟨Nat.le_of_ble_eq_true rfl, Nat.le_of_ble_eq_true rfl⟩ d_GR_kindBegunBy_14 ⟨by first | exact Nat.le_of_ble_eq_true rfl | ((try dsimp only); omega), by first | exact Nat.le_of_ble_eq_true rfl | ((try dsimp only); omega)⟩) (fun r_5 h8 H9 locs hp9 hX9 hz9 hI => ?_)
      obtain ⟨rfl, e9f⟩ := hp9
      rw [e9f] at hI
      clear hX9 e9f
      have hzA := hI.2.2.2.1
      refine f_callv hI (f_runI C hI (c_WO_init l G h_4 _ q_3 (G.2.2.2 (fS n)) 25 (fn n) 0 0 (fS n) (fx n) g_q_3 ((hFm.keepX hX) n (by omega)) (by decide) (by decide) (by decide)) gm_WO_init w_361 rfl w_451 rfl hl.1 rfl (Nat.le_of_ble_eq_true rfl) ⟨Nat.le_of_ble_eq_true rfl, Nat.le_of_ble_eq_true rfl⟩ d_GR_kindBegunBy_17 ⟨by first | exact Nat.le_of_ble_eq_true rfl | ((try dsimp only); omega), by first | exact Nat.le_of_ble_eq_true rfl | ((try dsimp only); omega)⟩) (fun h9 H9 locs hp9 hX9 hz9 hI => ?_)
      obtain ⟨g_q_3, hF9⟩ := hp9
      have hX := fX.tr (Nat.le_trans (Nat.le_of_eq hsz.symm) hzA) hX hX9
      have g_x := hF9 _ _ _ _ g_x (by decide)
      have hF := hF.tr (hF9.mono (fun r9 _ z => (by simp [inR] at z ⊢; omega : inR [25] r9 _)))
      have g_q_3 : h9 q_3 = some (25, 0, .inr (7, [.ref (G.2.2.2 (fS n)), .int (nI (wq n 0)), .int (nI (wz n 0)), .int 0])) := g_q_3
      have hT9 := hT1.keepF hF (by decide) (by decide)
      have hT8 := (hFm.keepX hX) n (by omega)
      refine f_calli hI (f_runV C hI (c_WO_isSameWordAs l G h9 _ x t 24 b e0 (nI w0) tn 26 27 0 tx g_x hT9 q_3 (G.2.2.2 (fS n)) 25 (wq n 0) (wz n 0) 0 (fn n) 0 0 (fS n) (fx n) g_q_3 hT8 bb be (by omega) (by omega)) gm_WO_isSameWordAs w_453 w_454 w_452 g_x rfl rfl rfl hl.1 rfl (Nat.le_of_ble_eq_true rfl) ⟨Nat.le_of_ble_eq_true rfl, Nat.le_of_ble_eq_true rfl⟩ d_GR_kindBegunBy_20 ⟨by first | exact Nat.le_of_ble_eq_true rfl | ((try dsimp only); omega), by first | exact Nat.le_of_ble_eq_true rfl | ((try dsimp only); omega)⟩) (fun r_7 h8 H9 locs hp9 hX9 hz9 hI => ?_)
      obtain ⟨hq9, e9f⟩ := hp9
      rw [e9f] at hI
      clear hX9 e9f
      rcases hq9 with ⟨rfl, hW⟩ | ⟨rfl, hW⟩
      · skip
        have hW := (sm_eq hf0.2.2.2.1 hf0.2.2.2.2.1).mp hW
        refine lv_if_eq (tgt := 28) hx hb d_GR_kindBegunBy_23 (by decide) (fun c_8 => absurd c_8 (by decide)) (fun c_8 => ?_)
        refine lv_iload_n hx hb d_GR_kindBegunBy_26 rfl (lv_at hl 1 rfl) ?_
        exact f_iret C hr hI ⟨by rw [hk.trans (fi_yes (by simp [hW]))]; exact (if_neg (by omega)).symm, hF⟩ hX (by (try dsimp only); omega) (by (try dsimp only); omega) d_GR_kindBegunBy_27
      · skip
        have hW : ¬ eqW tx b e0 n := fun z => hW ((sm_eq hf0.2.2.2.1 hf0.2.2.2.2.1).mpr z)
        refine lv_if_eq (tgt := 28) hx hb d_GR_kindBegunBy_23 (by decide) (fun c_9 => ?_) (fun c_9 => absurd (by decide) c_9)
        refine lv_iinc (v := nI (n + 1)) (lv' := [(1, .int (nI (n + 1))), (0, .ref x)]) hx hb d_GR_kindBegunBy_28 hl (k := 1) rfl (f_inc1 _) (by decide) rfl (fun ls hl => ?_)
        refine lv_goto (tgt := 2) hx hb d_GR_kindBegunBy_31 (by decide) ?_
        refine ih (n + 1) (by omega) (hk.trans (fi_no (by simp [hW]))) _ _ _ _ _ (by (try dsimp only); omega) (by (try dsimp only); omega) g_x hF hX hI ls ?_
        exact lv_sub hl [1, 0] rfl
  refine lv_iconst (v := 0) hx hb d_GR_kindBegunBy_0 (by decide) ?_
  refine lv_istore_n (lv' := [(1, .int 0), (0, .ref x)]) hx hb d_GR_kindBegunBy_1 rfl hl (by decide) rfl (fun ls hl => ?_)
  refine J2 6 0 (by omega) rfl _ _ _ _ _ (by (try dsimp only); omega) (by (try dsimp only); omega) g_x hF hX hI ls ?_
  exact lv_sub hl [1, 0] rfl
