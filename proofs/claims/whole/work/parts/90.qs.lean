def mf0 : Nat → Value := fun j => ([.null, .int 0, .null, .null, .null, .null, .int 0, .null, .null, .null, .null, .null, .int 0, .long 0, .int 0, .null, .null, .null, .int 0, .long 0, .long 0, .int 0, .int 0, .int 0, .null, .null, .null, .null, .null, .null, .int 0, .null, .null, .null, .int 0, .int 0, .int 0, .int 0, .int 0, .int 0] : List Value).getD j .null
set_option maxHeartbeats 8000000 in
set_option maxRecDepth 100000 in
/-- the law from its first row -/
theorem q_law {p : Program} {e : Env} {s : State} {m : MethodId} {below : List Frame} {meth : Method} {c : Code} (l : Launch) (G : gG) (h : fH) (b L : Nat) (xs : Nat → Int32) (cS : ClassId) (C : gC G p s m #[Value.ref b] meth c (fA h s.heap.size) code 4 "DutyRulesLaw" meth.name) (hfb : fT s cS .int) (hK0 : cst G h b cS L xs) (bL : L ≤ 4608) (hrt : meth.sig.returnType = ret) (hA : ∀ q, fA h s.heap.size q → s.heap.size ≤ q) (hE0 : sT G h 0 0 0 (G.2.2.2 0) (fun _ => 0) 0) (hI : fI G.1 g_cl (fA h s.heap.size) s.heap h s.heap [])
    : W p l e room_1 s m #[Value.ref b] below meth c s.heap [] 0 0 (lw_Z below #[Value.ref b] s) (entryFrame m ([Value.ref b] : List Value).toArray 4) := by
  obtain ⟨hx, hb, hml, hown, hnm, hlk, hT, hG, hZ⟩ := id C
  have hK := hG.1
  have hsz : s.heap.size = s.heap.size := rfl
  have hX : fX h s.heap.size h := fX.rf
  have hl := lv_entry ([Value.ref b] : List Value) (n := 4) (Nat.le_of_ble_eq_true rfl)
  rw [lg_entry_eq]
  generalize hls : (lg_sl [Value.ref b] ++ List.replicate (4 - (lg_sl [Value.ref b]).length) Slot.unset).toArray = ls at hl ⊢
  have hl : lv_has ls 4 [(0, .ref b)] := hl
  refine W.eq (g2 := F0 m 0 ls []) rfl ?_
  have hzN := hI.2.2.2.1
  refine f_new (ci := 0) (C := "DutyRules") (T := T_DR) (N := 10) (N2 := 10) (fs := [.null, .null, .null, .null, .null, .null, .null, .int 0, .null, .null]) hx hb (fun w q => hT w (s_DR w q)) t_DR k_DR hown (hT _ w_22) (hT _ w_23) (hT _ w_1) hK hI rfl (fun j hj => by rcases (show j = 0 ∨ j = 1 ∨ j = 2 ∨ j = 3 ∨ j = 4 ∨ j = 5 ∨ j = 6 ∨ j = 7 ∨ j = 8 ∨ j = 9 by omega) with rfl | rfl | rfl | rfl | rfl | rfl | rfl | rfl | rfl | rfl <;> rfl) 1 0 (Nat.le_of_ble_eq_true rfl) (Nat.le_of_ble_eq_true rfl) d_LA_law_0 (fun q_1 H eq_1 zq_1 nq_1 hI => ?_)
  generalize eh_2 : fU h q_1 (1, 0, .inr (0, [.null, .null, .null, .null, .null, .null, .null, .int 0, .null, .null])) = h_2 at hI
  have hX := hX.new (e := .inr (0, [.null, .null, .null, .null, .null, .null, .null, .int 0, .null, .null])) (r := 1) (o := 0) nq_1 (by omega); rw [eh_2] at hX
  have g_q_1 : h_2 q_1 = some (1, 0, .inr (0, [.null, .null, .null, .null, .null, .null, .null, .int 0, .null, .null])) := (congrFun eh_2 q_1).symm.trans (fU_self _ _ _)
  refine lv_dup hx hb d_LA_law_3 rfl ?_
  have hzA := hI.2.2.2.1
  refine f_callv hI (f_runI C hI (c_DR_init l G h_2 _ q_1 g_q_1) gm_DR_init w_25 rfl w_24 rfl hl.1 rfl (Nat.le_of_ble_eq_true rfl) ⟨Nat.le_of_ble_eq_true rfl, Nat.le_of_ble_eq_true rfl⟩ d_LA_law_4 ⟨Nat.le_of_ble_eq_true rfl, Nat.le_of_ble_eq_true rfl⟩) (fun h9 H9 locs hp9 hX9 hz9 hI => ?_)
  obtain ⟨T, E, F, D, I, R, A, g_X, hB, hEd, hC, hD0, hD1, hRu, hF9⟩ := hp9
  have hX := fX.tr (Nat.le_trans (Nat.le_of_eq hsz.symm) hzA) hX hX9
  have hS0 := hE0.keepX hX
  have hc0 : cAll G h9 q_1 0 (fun _ => 0) 0 (fun _ => 0) (fun _ => 0) (fun _ => 0) 0 0 (fun _ => 0) (fun _ => 0) (fun _ => 0) (fun _ => 0) (fun _ => 0) (-1) 0 [] (fun _ => 0) (fun _ => 0) (fun _ => 0) 0 (fun _ => 0) (fun _ => 0) (fun _ => 0) [] := ⟨T, E, F, D, I, R, G.2.2.2 0, 0, none, none, 16, A, fun _ => 0, fun _ => none, 0, fun _ => 0, fun _ => 0, fun _ _ => 0, -1, -1, fun _ => 0, d0, 0, 0, 0, g_X, ⟨hB, by decide⟩, hEd, ⟨fun _ => 0, fun _ => 0, hRu, fun n q => absurd q (Nat.not_lt_zero n)⟩, hC, ⟨hD0, Or.inl ⟨rfl, rfl, rfl⟩, fun q z => absurd z List.not_mem_nil⟩, ⟨_, _, _, _, hD1⟩, ⟨hS0, Or.inl ⟨rfl, rfl⟩⟩, ⟨⟨fun i q => absurd q (Nat.not_lt_zero i), fun i j q => absurd q (Nat.not_lt_zero i), fun i q => absurd q (Nat.not_lt_zero i)⟩, rfl⟩, Or.inl ⟨rfl, rfl⟩, fun mn _ => ⟨fun q => absurd q Nat.zero_ne_one, fun ⟨i, q, _⟩ => absurd q (Nat.not_lt_zero i)⟩⟩
  refine lv_astore_n (lv' := [(1, .ref q_1), (0, .ref b)]) hx hb d_LA_law_7 rfl hl (by decide) rfl (fun ls hl => ?_)
  have hzN := hI.2.2.2.1
  refine f_new (ci := 8) (C := "DutyRulesModel") (T := T_MO) (N := 40) (N2 := 40) (fs := [.null, .int 0, .null, .null, .null, .null, .int 0, .null, .null, .null, .null, .null, .int 0, .long 0, .int 0, .null, .null, .null, .int 0, .long 0, .long 0, .int 0, .int 0, .int 0, .null, .null, .null, .null, .null, .null, .int 0, .null, .null, .null, .int 0, .int 0, .int 0, .int 0, .int 0, .int 0]) hx hb (fun w q => hT w (s_MO w q)) t_MO k_MO hown (hT _ w_802) (hT _ w_803) (hT _ w_10) hK hI rfl (fun j hj => by rcases (show j = 0 ∨ j = 1 ∨ j = 2 ∨ j = 3 ∨ j = 4 ∨ j = 5 ∨ j = 6 ∨ j = 7 ∨ j = 8 ∨ j = 9 ∨ j = 10 ∨ j = 11 ∨ j = 12 ∨ j = 13 ∨ j = 14 ∨ j = 15 ∨ j = 16 ∨ j = 17 ∨ j = 18 ∨ j = 19 ∨ j = 20 ∨ j = 21 ∨ j = 22 ∨ j = 23 ∨ j = 24 ∨ j = 25 ∨ j = 26 ∨ j = 27 ∨ j = 28 ∨ j = 29 ∨ j = 30 ∨ j = 31 ∨ j = 32 ∨ j = 33 ∨ j = 34 ∨ j = 35 ∨ j = 36 ∨ j = 37 ∨ j = 38 ∨ j = 39 by omega) with rfl | rfl | rfl | rfl | rfl | rfl | rfl | rfl | rfl | rfl | rfl | rfl | rfl | rfl | rfl | rfl | rfl | rfl | rfl | rfl | rfl | rfl | rfl | rfl | rfl | rfl | rfl | rfl | rfl | rfl | rfl | rfl | rfl | rfl | rfl | rfl | rfl | rfl | rfl | rfl <;> rfl) 40 0 (Nat.le_of_ble_eq_true rfl) (Nat.le_of_ble_eq_true rfl) d_LA_law_8 (fun q_4 H eq_4 zq_4 nq_4 hI => ?_)
  generalize eh_5 : fU h9 q_4 (40, 0, .inr (8, [.null, .int 0, .null, .null, .null, .null, .int 0, .null, .null, .null, .null, .null, .int 0, .long 0, .int 0, .null, .null, .null, .int 0, .long 0, .long 0, .int 0, .int 0, .int 0, .null, .null, .null, .null, .null, .null, .int 0, .null, .null, .null, .int 0, .int 0, .int 0, .int 0, .int 0, .int 0])) = h_5 at hI
  have hX := hX.new (e := .inr (8, [.null, .int 0, .null, .null, .null, .null, .int 0, .null, .null, .null, .null, .null, .int 0, .long 0, .int 0, .null, .null, .null, .int 0, .long 0, .long 0, .int 0, .int 0, .int 0, .null, .null, .null, .null, .null, .null, .int 0, .null, .null, .null, .int 0, .int 0, .int 0, .int 0, .int 0, .int 0])) (r := 40) (o := 0) nq_4 (by omega); rw [eh_5] at hX
  have hW9 : fF (inR []) h9 h_5 := by rw [← eh_5]; exact fF.rf.new nq_4
  have hc0 := hc0.keep hW9 (by decide)
  have g_q_4 : h_5 q_4 = some (40, 0, .inr (8, [.null, .int 0, .null, .null, .null, .null, .int 0, .null, .null, .null, .null, .null, .int 0, .long 0, .int 0, .null, .null, .null, .int 0, .long 0, .long 0, .int 0, .int 0, .int 0, .null, .null, .null, .null, .null, .null, .int 0, .null, .null, .null, .int 0, .int 0, .int 0, .int 0, .int 0, .int 0])) := (congrFun eh_5 q_4).symm.trans (fU_self _ _ _)
  refine lv_dup hx hb d_LA_law_11 rfl ?_
  have g_q_4 : h_5 q_4 = some (40, 0, .inr (8, mo mf0)) := g_q_4
  have hzA := hI.2.2.2.1
  refine f_callv hI (f_runI C hI (c_MO_init l G h_5 _ q_4 mf0 g_q_4 rfl rfl rfl rfl rfl rfl rfl rfl rfl rfl rfl) gm_MO_init w_805 rfl w_804 rfl hl.1 rfl (Nat.le_of_ble_eq_true rfl) ⟨Nat.le_of_ble_eq_true rfl, Nat.le_of_ble_eq_true rfl⟩ d_LA_law_12 ⟨Nat.le_of_ble_eq_true rfl, Nat.le_of_ble_eq_true rfl⟩) (fun h9 H9 locs hp9 hX9 hz9 hI => ?_)
  obtain ⟨mf, g_M, hTx, hRd, hEm, hFf, v_13, hS9, hSh, hRt, hF9⟩ := hp9
  have hX := fX.tr (Nat.le_trans (Nat.le_of_eq hsz.symm) hzA) hX hX9
  have hc0 := hc0.keep hF9 (by decide)
  refine lv_astore_n (lv' := [(2, .ref q_4), (1, .ref q_1), (0, .ref b)]) hx hb d_LA_law_15 rfl hl (by decide) rfl (fun ls hl => ?_)
  refine lv_iconst (v := 0) hx hb d_LA_law_16 (by decide) ?_
  refine lv_istore_n (lv' := [(3, .int 0), (2, .ref q_4), (1, .ref q_1), (0, .ref b)]) hx hb d_LA_law_17 rfl hl (by decide) rfl (fun ls hl => ?_)
  refine q_loop l G h b L q_1 q_4 xs cS C hfb hK0 bL hrt hA 512 0 (by omega) (Nat.zero_le _) h9 _ _ _ _ (by decide) (by decide) ⟨0, fun _ => 0, 0, fun _ => 0, fun _ => 0, fun _ => 0, 0, 0, fun _ => 0, fun _ => 0, fun _ => 0, fun _ => 0, fun _ => 0, -1, 0, [], fun _ => 0, fun _ => 0, fun _ => 0, 0, fun _ => 0, fun _ => 0, fun _ => 0, [], ⟨mf, fun _ => 0, g_M, hTx, hRd, hEm, hFf, v_13, hS9, hSh, hRt⟩, hc0, ⟨rep5_0 _, rfl, by decide, fun mn l _ _ q => absurd rfl q, fun _ _ _ _ _ => rfl⟩⟩ hX hI ls ?_
  exact lv_sub hl [3, 2, 1, 0] rfl
