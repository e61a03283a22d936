theorem gm_MO_read : gM y_MO_read b_MO_read 4 (some .int) 0 := ⟨w_937, w_10, ⟨by decide, by decide⟩, by decide +kernel⟩
set_option maxHeartbeats 4000000 in
set_option maxRecDepth 100000 in
/-- MO_read  -/
theorem c_MO_read (l : Launch) (G : gG) (h : fH) (sz : Nat) (x : Nat) (rg : Nat → Nat) (mf : Nat → Value) (g_x : h x = some (40, 0, .inr (8, mo mf))) (tn : Nat) (tx : Nat → Nat) (hTx : mTx G h mf tn tx) (ne : Nat) (ef rr rm : Nat → Nat) (hEd : mEd G h mf ne ef rr rm) (hRd : mRd G h mf rg) (hS : sT G h 0 0 7 (G.2.2.2 7) aL 63) : cM l y_MO_read b_MO_read 4 (some .int) { frames := 8, cells := 0, slots := 0, locals := 181 } G [.ref x] h sz (cQi G h sz (fun r h' => ∃ (rg2 : Nat → Nat) (mf' : Nat → Value), h' x = some (40, 0, .inr (8, mo mf')) ∧ (∀ j, j = 0 ∨ (1 < j ∧ j < 34) ∨ 36 < j → mf' j = mf j) ∧ mTx G h' mf' 0 tx ∧ mRd G h' mf' rg2 ∧ fF (inR [40, 43, 44, 45]) h h' ∧ (((rd tx tn).1 = false ∧ r = (-1) - nI (rd tx tn).2.1 ∧ mEd G h' mf' ne ef rr rm) ∨ ((rd tx tn).1 = true ∧ r = nI (rd tx tn).2.2.length ∧ (rd tx tn).2.2.length ≤ 40 ∧ ∃ rr', mEd G h' mf' ne ef rr' (va_up rm 10 (rd tx tn).2.2.length) ∧ (∀ i, i < 2000 → rr' i = rr i) ∧ rep5 (fun i => rr' (2000 + i)) (rd tx tn).2.2)))) := by
  refine f_start (by decide) (Nat.le_of_ble_eq_true rfl) ?_
  intro p e s m below meth c ls C hr hsz hI hl
  obtain ⟨hx, hb, hml, hown, hnm, hlk, hT, hG, hZ⟩ := id C
  have hK := hG.1
  have hX : fX h sz h := fX.rf
  have hl : lv_has ls 4 [(0, .ref x)] := hl
  obtain ⟨a0, ⟨v_0, v_1⟩, g_a0, btn, btx⟩ := hTx
  obtain ⟨a3, a4, a5, ⟨v_3, v_4, v_5, v_6⟩, ⟨g_a3, g_a4, g_a5⟩, bne, brm, bef, brr, brk⟩ := hEd
  obtain ⟨a2, v_2, g_a2, brg⟩ := hRd
  have hF : fF (inR [40, 43, 44, 45]) h h := fF.rf
  have hm1 : ∀ j, j = 0 ∨ (1 < j ∧ j < 34) ∨ 36 < j → mf j = mf j := fun _ _ => rfl
  have hz0 := hI.2.2.2.1
  have bcp : ∀ rg1 : Nat → Nat, (∀ i, rg1 i ≤ 100000000) → ∀ n i, cpx rr rg1 n i ≤ 100000000 := fun rg1 h1 n i => cpx_le brr h1 n i
  have J63 : ∀ (L : List rlT) (b1 e1 w1 : Nat) (rg1 : Nat → Nat), rd tx tn = (true, w1, L) → L.length ≤ 40 → rep5 rg1 L → (∀ i, rg1 i ≤ 100000000) → ∀ (k i : Nat), i + k = 5 * L.length → ∀ (h1 : fH) (mf1 : Nat → Value) (H : Heap) (locs : List Loc), h1 x = some (40, 0, .inr (8, mo mf1)) → h1 a0 = some (41, 0, .inl ((G.2.1 0), 2000, .inl (fun i => nI (tx i)))) → h1 a2 = some (43, 0, .inl ((G.2.1 0), 200, .inl (fun i => nI (rg1 i)))) → h1 a3 = some (44, 0, .inl ((G.2.1 0), 2200, .inl (fun j => nI (cpx rr rg1 i j)))) → h1 a4 = some (45, 0, .inl ((G.2.1 0), 11, .inl (fun i => nI (rm i)))) → h1 a5 = some (46, 0, .inl ((G.2.1 1), 11, .inr (.inl (fun i => lN (ef i))))) → mf1 0 = .ref a0 → mf1 1 = .int (nI 0) → mf1 2 = .ref a2 → mf1 3 = .ref a3 → mf1 4 = .ref a4 → mf1 5 = .ref a5 → mf1 6 = .int (nI ne) → mf1 34 = .int (nI b1) → mf1 35 = .int (nI e1) → mf1 36 = .int (nI w1) → (∀ j, j = 0 ∨ (1 < j ∧ j < 34) ∨ 36 < j → mf1 j = mf j) → fF (inR [40, 43, 44, 45]) h h1 → fX h sz h1 → fI G.1 g_cl (fA h sz) s.heap h1 H locs → ∀ ls : Array Slot, lv_has ls 4 [(0, .ref x), (1, .int (nI L.length)), (3, .int (nI i))] → W p l e { frames := 8, cells := 0, slots := 0, locals := 181 } s m ([.ref x] : List Value).toArray below meth c H locs 0 0 (MQ below (cQi G h sz (fun r h' => ∃ (rg2 : Nat → Nat) (mf' : Nat → Value), h' x = some (40, 0, .inr (8, mo mf')) ∧ (∀ j, j = 0 ∨ (1 < j ∧ j < 34) ∨ 36 < j → mf' j = mf j) ∧ mTx G h' mf' 0 tx ∧ mRd G h' mf' rg2 ∧ fF (inR [40, 43, 44, 45]) h h' ∧ (((rd tx tn).1 = false ∧ r = (-1) - nI (rd tx tn).2.1 ∧ mEd G h' mf' ne ef rr rm) ∨ ((rd tx tn).1 = true ∧ r = nI (rd tx tn).2.2.length ∧ (rd tx tn).2.2.length ≤ 40 ∧ ∃ rr', mEd G h' mf' ne ef rr' (va_up rm 10 (rd tx tn).2.2.length) ∧ (∀ i, i < 2000 → rr' i = rr i) ∧ rep5 (fun i => rr' (2000 + i)) (rd tx tn).2.2)))) ([.ref x] : List Value).toArray s 0 0 (fA h sz)) (F0 m 63 ls []) := by
    intro L b1 e1 w1 rg1 hrd bL hrep1 brg1 k
    induction k with
    | zero =>
      intro i hi h1 mf1 H locs g_x g_a0 g_a2 g_a3 g_a4 g_a5 v_0 v_1 v_2 v_3 v_4 v_5 v_6 v_34 v_35 v_36 hm1 hF hX hI ls hl
      have hi2 : i = 5 * L.length := by omega
      subst hi2
      refine lv_iload_n hx hb d_MO_read_63 rfl (lv_at hl 2 rfl) ?_
      refine lv_iconst (v := 5) hx hb d_MO_read_64 (by decide) ?_
      refine lv_iload_n hx hb d_MO_read_65 rfl (lv_at hl 1 rfl) ?_
      refine lv_imul hx hb d_MO_read_66 ?_
      refine f_asi (pk_mul 5 L.length) ?_
      refine lv_icmp_ge (tgt := 92) hx hb d_MO_read_67 (by decide) (fun c_1 => ?_) (fun c_1 => absurd (l_rfI _) c_1)
      refine lv_aload_n hx hb d_MO_read_92 rfl (lv_at hl 0 rfl) ?_
      refine f_get (C := "DutyRulesModel") (T := T_MO) (N := 40) hx hb (fun w q => hT w (s_MO w q)) hown hK hI g_x rfl 4 (by decide) (hT _ w_813) (fun _ q => q) (mo_get (by decide) v_4) d_MO_read_93 ?_
      refine lv_bipush (v := 10) hx hb d_MO_read_96 (by decide) ?_
      refine lv_iload_n hx hb d_MO_read_98 rfl (lv_at hl 1 rfl) ?_
      refine f_iastn (k := 10) (f' := (fun i => nI (va_up rm 10 L.length i))) hx hb hI g_a4 (by decide) (fT.ofK hK (t0 := 0) rfl) (by omega) (by omega) (up_i rm 10 L.length) d_MO_read_99 (fun H locs hI => ?_)
      generalize eh_2 : fU h1 a4 (45, 0, .inl ((G.2.1 0), 11, .inl (fun i => nI (va_up rm 10 L.length i)))) = h_2 at hI
      have hX := hX.set (e := .inl ((G.2.1 0), 11, .inl (fun i => nI (va_up rm 10 L.length i)))) g_a4 (by decide); rw [eh_2] at hX
      have hF := hF.set (e := .inl ((G.2.1 0), 11, .inl (fun i => nI (va_up rm 10 L.length i)))) g_a4 (by decide); rw [eh_2] at hF
      have g_a0 : h_2 a0 = some (41, 0, .inl ((G.2.1 0), 2000, .inl (fun i => nI (tx i)))) := (congrFun eh_2 a0).symm.trans (fU_keep g_a0 (f_neR g_a0 g_a4 (by decide)))
      have g_a2 : h_2 a2 = some (43, 0, .inl ((G.2.1 0), 200, .inl (fun i => nI (rg1 i)))) := (congrFun eh_2 a2).symm.trans (fU_keep g_a2 (f_neR g_a2 g_a4 (by decide)))
      have g_a3 : h_2 a3 = some (44, 0, .inl ((G.2.1 0), 2200, .inl (fun j => nI (cpx rr rg1 (5 * L.length) j)))) := (congrFun eh_2 a3).symm.trans (fU_keep g_a3 (f_neR g_a3 g_a4 (by decide)))
      have g_a5 : h_2 a5 = some (46, 0, .inl ((G.2.1 1), 11, .inr (.inl (fun i => lN (ef i))))) := (congrFun eh_2 a5).symm.trans (fU_keep g_a5 (f_neR g_a5 g_a4 (by decide)))
      have g_x : h_2 x = some (40, 0, .inr (8, mo mf1)) := (congrFun eh_2 x).symm.trans (fU_keep g_x (f_neR g_x g_a4 (by decide)))
      have g_a4 : h_2 a4 = some (45, 0, .inl ((G.2.1 0), 11, .inl (fun i => nI (va_up rm 10 L.length i)))) := (congrFun eh_2 a4).symm.trans (fU_self _ _ _)
      refine lv_iload_n hx hb d_MO_read_100 rfl (lv_at hl 1 rfl) ?_
      exact f_iret C hr hI ⟨rg1, mf1, g_x, hm1, ⟨a0, ⟨v_0, v_1⟩, g_a0, Nat.zero_le _, btx⟩, ⟨a2, v_2, g_a2, brg1⟩, hF, Or.inr (by rw [hrd]; exact ⟨rfl, rfl, bL, cpx rr rg1 (5 * L.length), ⟨a3, a4, a5, ⟨v_3, v_4, v_5, v_6⟩, ⟨g_a3, g_a4, g_a5⟩, bne, up_le brm bL, bef, bcp rg1 brg1 _, okR_cpx hrep1 bL brm brk⟩, fun i hi => cpx_lo hi, rep5_cpx hrep1⟩)⟩ hX (Nat.le_refl _) (Nat.le_refl _) d_MO_read_101
    | succ k ih =>
      intro i hi h1 mf1 H locs g_x g_a0 g_a2 g_a3 g_a4 g_a5 v_0 v_1 v_2 v_3 v_4 v_5 v_6 v_34 v_35 v_36 hm1 hF hX hI ls hl
      have ih : ∀ i : Nat, i + k = 5 * L.length → ∀ (h1 : fH) (mf1 : Nat → Value) (H : Heap) (locs : List Loc), h1 x = some (40, 0, .inr (8, mo mf1)) → h1 a0 = some (41, 0, .inl ((G.2.1 0), 2000, .inl (fun i => nI (tx i)))) → h1 a2 = some (43, 0, .inl ((G.2.1 0), 200, .inl (fun i => nI (rg1 i)))) → h1 a3 = some (44, 0, .inl ((G.2.1 0), 2200, .inl (fun j => nI (cpx rr rg1 i j)))) → h1 a4 = some (45, 0, .inl ((G.2.1 0), 11, .inl (fun i => nI (rm i)))) → h1 a5 = some (46, 0, .inl ((G.2.1 1), 11, .inr (.inl (fun i => lN (ef i))))) → mf1 0 = .ref a0 → mf1 1 = .int (nI 0) → mf1 2 = .ref a2 → mf1 3 = .ref a3 → mf1 4 = .ref a4 → mf1 5 = .ref a5 → mf1 6 = .int (nI ne) → mf1 34 = .int (nI b1) → mf1 35 = .int (nI e1) → mf1 36 = .int (nI w1) → (∀ j, j = 0 ∨ (1 < j ∧ j < 34) ∨ 36 < j → mf1 j = mf j) → fF (inR [40, 43, 44, 45]) h h1 → fX h sz h1 → fI G.1 g_cl (fA h sz) s.heap h1 H locs → ∀ ls : Array Slot, lv_has ls 4 [(0, .ref x), (1, .int (nI L.length)), (3, .int (nI i))] → W p l e { frames := 8, cells := 0, slots := 0, locals := 181 } s m ([.ref x] : List Value).toArray below meth c H locs 0 0 (MQ below (cQi G h sz (fun r h' => ∃ (rg2 : Nat → Nat) (mf' : Nat → Value), h' x = some (40, 0, .inr (8, mo mf')) ∧ (∀ j, j = 0 ∨ (1 < j ∧ j < 34) ∨ 36 < j → mf' j = mf j) ∧ mTx G h' mf' 0 tx ∧ mRd G h' mf' rg2 ∧ fF (inR [40, 43, 44, 45]) h h' ∧ (((rd tx tn).1 = false ∧ r = (-1) - nI (rd tx tn).2.1 ∧ mEd G h' mf' ne ef rr rm) ∨ ((rd tx tn).1 = true ∧ r = nI (rd tx tn).2.2.length ∧ (rd tx tn).2.2.length ≤ 40 ∧ ∃ rr', mEd G h' mf' ne ef rr' (va_up rm 10 (rd tx tn).2.2.length) ∧ (∀ i, i < 2000 → rr' i = rr i) ∧ rep5 (fun i => rr' (2000 + i)) (rd tx tn).2.2)))) ([.ref x] : List Value).toArray s 0 0 (fA h sz)) (F0 m 63 ls []) := ih
      refine lv_iload_n hx hb d_MO_read_63 rfl (lv_at hl 2 rfl) ?_
      refine lv_iconst (v := 5) hx hb d_MO_read_64 (by decide) ?_
      refine lv_iload_n hx hb d_MO_read_65 rfl (lv_at hl 1 rfl) ?_
      refine lv_imul hx hb d_MO_read_66 ?_
      refine f_asi (pk_mul 5 L.length) ?_
      refine lv_icmp_ge (tgt := 92) hx hb d_MO_read_67 (by decide) (fun c_3 => absurd c_3 (fun q => absurd ((n_le (a := 5 * L.length) (b := i) (by omega) (by omega)).mp q) (by omega))) (fun c_3 => ?_)
      refine lv_aload_n hx hb d_MO_read_70 rfl (lv_at hl 0 rfl) ?_
      refine f_get (C := "DutyRulesModel") (T := T_MO) (N := 40) hx hb (fun w q => hT w (s_MO w q)) hown hK hI g_x rfl 3 (by decide) (hT _ w_812) (fun _ q => q) (mo_get (by decide) v_3) d_MO_read_71 ?_
      refine lv_sipush (v := 2000) hx hb d_MO_read_74 (by decide) ?_
      refine lv_iload_n hx hb d_MO_read_77 rfl (lv_at hl 2 rfl) ?_
      refine lv_iadd hx hb d_MO_read_78 ?_
      refine f_asi (nI_add 2000 i) ?_
      refine lv_aload_n hx hb d_MO_read_79 rfl (lv_at hl 0 rfl) ?_
      refine f_get (C := "DutyRulesModel") (T := T_MO) (N := 40) hx hb (fun w q => hT w (s_MO w q)) hown hK hI g_x rfl 2 (by decide) (hT _ w_811) (fun _ q => q) (mo_get (by decide) v_2) d_MO_read_80 ?_
      refine lv_iload_n hx hb d_MO_read_83 rfl (lv_at hl 2 rfl) ?_
      refine f_ialdn (k := i) (v := (nI (rg1 i))) hx hb hI g_a2 (fT.ofK hK (t0 := 0) rfl) (by omega) (by omega) rfl d_MO_read_84 ?_
      refine f_iastn (k := (2000 + i)) (f' := (fun j => nI (cpx rr rg1 (i + 1) j))) hx hb hI g_a3 (by decide) (fT.ofK hK (t0 := 0) rfl) (by omega) (by omega) (cpx_up rr rg1 i) d_MO_read_85 (fun H locs hI => ?_)
      generalize eh_4 : fU h1 a3 (44, 0, .inl ((G.2.1 0), 2200, .inl (fun j => nI (cpx rr rg1 (i + 1) j)))) = h_4 at hI
      have hX := hX.set (e := .inl ((G.2.1 0), 2200, .inl (fun j => nI (cpx rr rg1 (i + 1) j)))) g_a3 (by decide); rw [eh_4] at hX
      have hF := hF.set (e := .inl ((G.2.1 0), 2200, .inl (fun j => nI (cpx rr rg1 (i + 1) j)))) g_a3 (by decide); rw [eh_4] at hF
      have g_a0 : h_4 a0 = some (41, 0, .inl ((G.2.1 0), 2000, .inl (fun i => nI (tx i)))) := (congrFun eh_4 a0).symm.trans (fU_keep g_a0 (f_neR g_a0 g_a3 (by decide)))
      have g_a2 : h_4 a2 = some (43, 0, .inl ((G.2.1 0), 200, .inl (fun i => nI (rg1 i)))) := (congrFun eh_4 a2).symm.trans (fU_keep g_a2 (f_neR g_a2 g_a3 (by decide)))
      have g_a4 : h_4 a4 = some (45, 0, .inl ((G.2.1 0), 11, .inl (fun i => nI (rm i)))) := (congrFun eh_4 a4).symm.trans (fU_keep g_a4 (f_neR g_a4 g_a3 (by decide)))
      have g_a5 : h_4 a5 = some (46, 0, .inl ((G.2.1 1), 11, .inr (.inl (fun i => lN (ef i))))) := (congrFun eh_4 a5).symm.trans (fU_keep g_a5 (f_neR g_a5 g_a3 (by decide)))
      have g_x : h_4 x = some (40, 0, .inr (8, mo mf1)) := (congrFun eh_4 x).symm.trans (fU_keep g_x (f_neR g_x g_a3 (by decide)))
      have g_a3 : h_4 a3 = some (44, 0, .inl ((G.2.1 0), 2200, .inl (fun j => nI (cpx rr rg1 (i + 1) j)))) := (congrFun eh_4 a3).symm.trans (fU_self _ _ _)
      refine lv_iinc (v := nI (i + 1)) (lv' := [(3, .int (nI (i + 1))), (0, .ref x), (1, .int (nI L.length))]) hx hb d_MO_read_86 hl (k := 2) rfl (f_inc1 _) (by decide) rfl (fun ls hl => ?_)
      refine lv_goto (tgt := 63) hx hb d_MO_read_89 (by decide) ?_
      refine ih (i + 1) (by omega) _ mf1 _ _ g_x g_a0 g_a2 g_a3 g_a4 g_a5 v_0 v_1 v_2 v_3 v_4 v_5 v_6 v_34 v_35 v_36 hm1 hF hX hI ls ?_
      exact lv_sub hl [1, 2, 0] rfl
  have J18 : ∀ (k : Nat), ∀ (L : List rlT) (b1 e1 w1 : Nat) (rg1 : Nat → Nat), L.length + k = 41 → L.length ≤ 40 → rd tx tn = rdS tx tn k L b1 e1 w1 → b1 ≤ e1 → e1 ≤ tn → (∀ i, rg1 i ≤ 100000000) → rep5 rg1 L → ∀ (h1 : fH) (mf1 : Nat → Value) (H : Heap) (locs : List Loc), h1 x = some (40, 0, .inr (8, mo mf1)) → h1 a0 = some (41, 0, .inl ((G.2.1 0), 2000, .inl (fun i => nI (tx i)))) → h1 a2 = some (43, 0, .inl ((G.2.1 0), 200, .inl (fun i => nI (rg1 i)))) → h1 a3 = some (44, 0, .inl ((G.2.1 0), 2200, .inl (fun i => nI (rr i)))) → h1 a4 = some (45, 0, .inl ((G.2.1 0), 11, .inl (fun i => nI (rm i)))) → h1 a5 = some (46, 0, .inl ((G.2.1 1), 11, .inr (.inl (fun i => lN (ef i))))) → mf1 0 = .ref a0 → mf1 1 = .int (nI tn) → mf1 2 = .ref a2 → mf1 3 = .ref a3 → mf1 4 = .ref a4 → mf1 5 = .ref a5 → mf1 6 = .int (nI ne) → mf1 34 = .int (nI b1) → mf1 35 = .int (nI e1) → mf1 36 = .int (nI w1) → (∀ j, j = 0 ∨ (1 < j ∧ j < 34) ∨ 36 < j → mf1 j = mf j) → fF (inR [40, 43, 44, 45]) h h1 → fX h sz h1 → fI G.1 g_cl (fA h sz) s.heap h1 H locs → ∀ ls : Array Slot, lv_has ls 4 [(0, .ref x), (1, .int (nI L.length)), (2, .int 1)] → W p l e { frames := 8, cells := 0, slots := 0, locals := 181 } s m ([.ref x] : List Value).toArray below meth c H locs 0 0 (MQ below (cQi G h sz (fun r h' => ∃ (rg2 : Nat → Nat) (mf' : Nat → Value), h' x = some (40, 0, .inr (8, mo mf')) ∧ (∀ j, j = 0 ∨ (1 < j ∧ j < 34) ∨ 36 < j → mf' j = mf j) ∧ mTx G h' mf' 0 tx ∧ mRd G h' mf' rg2 ∧ fF (inR [40, 43, 44, 45]) h h' ∧ (((rd tx tn).1 = false ∧ r = (-1) - nI (rd tx tn).2.1 ∧ mEd G h' mf' ne ef rr rm) ∨ ((rd tx tn).1 = true ∧ r = nI (rd tx tn).2.2.length ∧ (rd tx tn).2.2.length ≤ 40 ∧ ∃ rr', mEd G h' mf' ne ef rr' (va_up rm 10 (rd tx tn).2.2.length) ∧ (∀ i, i < 2000 → rr' i = rr i) ∧ rep5 (fun i => rr' (2000 + i)) (rd tx tn).2.2)))) ([.ref x] : List Value).toArray s 0 0 (fA h sz)) (F0 m 18 ls []) := by
    intro k
    induction k with
    | zero =>
      intro L b1 e1 w1 rg1 hLk bL
      exact absurd hLk (by omega)
    | succ k ih =>
      intro L b1 e1 w1 rg1 hLk bL hrd bb1 be1 brg1 hrep1 h1 mf1 H locs g_x g_a0 g_a2 g_a3 g_a4 g_a5 v_0 v_1 v_2 v_3 v_4 v_5 v_6 v_34 v_35 v_36 hm1 hF hX hI ls hl
      have ih : ∀ (L : List rlT) (b1 e1 w1 : Nat) (rg1 : Nat → Nat), L.length + k = 41 → L.length ≤ 40 → rd tx tn = rdS tx tn k L b1 e1 w1 → b1 ≤ e1 → e1 ≤ tn → (∀ i, rg1 i ≤ 100000000) → rep5 rg1 L → ∀ (h1 : fH) (mf1 : Nat → Value) (H : Heap) (locs : List Loc), h1 x = some (40, 0, .inr (8, mo mf1)) → h1 a0 = some (41, 0, .inl ((G.2.1 0), 2000, .inl (fun i => nI (tx i)))) → h1 a2 = some (43, 0, .inl ((G.2.1 0), 200, .inl (fun i => nI (rg1 i)))) → h1 a3 = some (44, 0, .inl ((G.2.1 0), 2200, .inl (fun i => nI (rr i)))) → h1 a4 = some (45, 0, .inl ((G.2.1 0), 11, .inl (fun i => nI (rm i)))) → h1 a5 = some (46, 0, .inl ((G.2.1 1), 11, .inr (.inl (fun i => lN (ef i))))) → mf1 0 = .ref a0 → mf1 1 = .int (nI tn) → mf1 2 = .ref a2 → mf1 3 = .ref a3 → mf1 4 = .ref a4 → mf1 5 = .ref a5 → mf1 6 = .int (nI ne) → mf1 34 = .int (nI b1) → mf1 35 = .int (nI e1) → mf1 36 = .int (nI w1) → (∀ j, j = 0 ∨ (1 < j ∧ j < 34) ∨ 36 < j → mf1 j = mf j) → fF (inR [40, 43, 44, 45]) h h1 → fX h sz h1 → fI G.1 g_cl (fA h sz) s.heap h1 H locs → ∀ ls : Array Slot, lv_has ls 4 [(0, .ref x), (1, .int (nI L.length)), (2, .int 1)] → W p l e { frames := 8, cells := 0, slots := 0, locals := 181 } s m ([.ref x] : List Value).toArray below meth c H locs 0 0 (MQ below (cQi G h sz (fun r h' => ∃ (rg2 : Nat → Nat) (mf' : Nat → Value), h' x = some (40, 0, .inr (8, mo mf')) ∧ (∀ j, j = 0 ∨ (1 < j ∧ j < 34) ∨ 36 < j → mf' j = mf j) ∧ mTx G h' mf' 0 tx ∧ mRd G h' mf' rg2 ∧ fF (inR [40, 43, 44, 45]) h h' ∧ (((rd tx tn).1 = false ∧ r = (-1) - nI (rd tx tn).2.1 ∧ mEd G h' mf' ne ef rr rm) ∨ ((rd tx tn).1 = true ∧ r = nI (rd tx tn).2.2.length ∧ (rd tx tn).2.2.length ≤ 40 ∧ ∃ rr', mEd G h' mf' ne ef rr' (va_up rm 10 (rd tx tn).2.2.length) ∧ (∀ i, i < 2000 → rr' i = rr i) ∧ rep5 (fun i => rr' (2000 + i)) (rd tx tn).2.2)))) ([.ref x] : List Value).toArray s 0 0 (fA h sz)) (F0 m 18 ls []) := ih
      have hS1 := hS.keepX hX
      refine lv_iload_n hx hb d_MO_read_18 rfl (lv_at hl 2 rfl) ?_
      refine lv_if_eq (tgt := 45) hx hb d_MO_read_19 (by decide) (fun c_5 => absurd c_5 (by decide)) (fun c_5 => ?_)
      refine lv_aload_n hx hb d_MO_read_22 rfl (lv_at hl 0 rfl) ?_
      refine f_get (C := "DutyRulesModel") (T := T_MO) (N := 40) hx hb (fun w q => hT w (s_MO w q)) hown hK hI g_x rfl 34 (by decide) (hT _ w_843) (fun _ q => q) (mo_get (by decide) v_34) d_MO_read_23 ?_
      refine lv_aload_n hx hb d_MO_read_26 rfl (lv_at hl 0 rfl) ?_
      refine f_get (C := "DutyRulesModel") (T := T_MO) (N := 40) hx hb (fun w q => hT w (s_MO w q)) hown hK hI g_x rfl 1 (by decide) (hT _ w_810) (fun _ q => q) (mo_get (by decide) v_1) d_MO_read_27 ?_
      refine lv_icmp_ge (tgt := 45) hx hb d_MO_read_30 (by decide) (fun c_6 => ?_) (fun c_6 => ?_)
      · have c_6 : tn ≤ b1 := (n_le (a := tn) (b := b1) (by omega) (by omega)).mp c_6
        refine lv_aload_n hx hb d_MO_read_45 rfl (lv_at hl 0 rfl) ?_
        refine lv_iconst (v := 0) hx hb d_MO_read_46 (by decide) ?_
        refine f_put (C := "DutyRulesModel") (T := T_MO) (N := 40) (fs' := mo (va_up mf1 1 (.int 0))) (v := .int 0) hx hb (fun w q => hT w (s_MO w q)) t_MO k_MO n_MO hown hK hI g_x (by decide) rfl 1 (by decide) (hT _ w_810) (fun _ q => q) rfl rfl rfl (by rw [mo_len]; decide) (mo_set _) d_MO_read_47 (fun H locs hI => ?_)
        generalize emf_7 : va_up mf1 1 (.int 0) = mf_7 at hI
        have v_0 : mf_7 0 = .ref a0 := (congrFun emf_7 0).symm.trans ((va_up_ne _ _ (by decide)).trans v_0)
        have v_2 : mf_7 2 = .ref a2 := (congrFun emf_7 2).symm.trans ((va_up_ne _ _ (by decide)).trans v_2)
        have v_3 : mf_7 3 = .ref a3 := (congrFun emf_7 3).symm.trans ((va_up_ne _ _ (by decide)).trans v_3)
        have v_4 : mf_7 4 = .ref a4 := (congrFun emf_7 4).symm.trans ((va_up_ne _ _ (by decide)).trans v_4)
        have v_5 : mf_7 5 = .ref a5 := (congrFun emf_7 5).symm.trans ((va_up_ne _ _ (by decide)).trans v_5)
        have v_6 : mf_7 6 = .int (nI ne) := (congrFun emf_7 6).symm.trans ((va_up_ne _ _ (by decide)).trans v_6)
        have v_34 : mf_7 34 = .int (nI b1) := (congrFun emf_7 34).symm.trans ((va_up_ne _ _ (by decide)).trans v_34)
        have v_35 : mf_7 35 = .int (nI e1) := (congrFun emf_7 35).symm.trans ((va_up_ne _ _ (by decide)).trans v_35)
        have v_36 : mf_7 36 = .int (nI w1) := (congrFun emf_7 36).symm.trans ((va_up_ne _ _ (by decide)).trans v_36)
        have v_1 : mf_7 1 = .int 0 := (congrFun emf_7 1).symm.trans (va_up_self _ _ _)
        generalize eh_8 : fU h1 x (40, 0, .inr (8, mo mf_7)) = h_8 at hI
        have hX := hX.set (e := .inr (8, mo mf_7)) g_x (by decide); rw [eh_8] at hX
        have hF := hF.set (e := .inr (8, mo mf_7)) g_x (by decide); rw [eh_8] at hF
        have g_a0 : h_8 a0 = some (41, 0, .inl ((G.2.1 0), 2000, .inl (fun i => nI (tx i)))) := (congrFun eh_8 a0).symm.trans (fU_keep g_a0 (f_neR g_a0 g_x (by decide)))
        have g_a2 : h_8 a2 = some (43, 0, .inl ((G.2.1 0), 200, .inl (fun i => nI (rg1 i)))) := (congrFun eh_8 a2).symm.trans (fU_keep g_a2 (f_neR g_a2 g_x (by decide)))
        have g_a3 : h_8 a3 = some (44, 0, .inl ((G.2.1 0), 2200, .inl (fun i => nI (rr i)))) := (congrFun eh_8 a3).symm.trans (fU_keep g_a3 (f_neR g_a3 g_x (by decide)))
        have g_a4 : h_8 a4 = some (45, 0, .inl ((G.2.1 0), 11, .inl (fun i => nI (rm i)))) := (congrFun eh_8 a4).symm.trans (fU_keep g_a4 (f_neR g_a4 g_x (by decide)))
        have g_a5 : h_8 a5 = some (46, 0, .inl ((G.2.1 1), 11, .inr (.inl (fun i => lN (ef i))))) := (congrFun eh_8 a5).symm.trans (fU_keep g_a5 (f_neR g_a5 g_x (by decide)))
        have g_x : h_8 x = some (40, 0, .inr (8, mo mf_7)) := (congrFun eh_8 x).symm.trans (fU_self _ _ _)
        have hm1 : ∀ j, j = 0 ∨ (1 < j ∧ j < 34) ∨ 36 < j → mf_7 j = mf j := fun j hj => (congrFun emf_7 j).symm.trans ((va_up_ne _ _ (by omega)).trans (hm1 j hj))
        refine lv_iload_n hx hb d_MO_read_50 rfl (lv_at hl 2 rfl) ?_
        refine lv_if_ne (tgt := 61) hx hb d_MO_read_51 (by decide) (fun c_9 => ?_) (fun c_9 => absurd c_9 (by decide))
        refine lv_iconst (v := 0) hx hb d_MO_read_61 (by decide) ?_
        refine lv_istore_n (lv' := [(3, .int 0), (0, .ref x), (1, .int (nI L.length)), (2, .int 1)]) hx hb d_MO_read_62 rfl hl (by decide) rfl (fun ls hl => ?_)
        refine J63 L b1 e1 w1 rg1 (hrd.trans (rdS_end (by omega))) bL hrep1 brg1 (5 * L.length) 0 (by omega) _ mf_7 _ _ g_x g_a0 g_a2 (by rw [cpx_0]; exact g_a3) g_a4 g_a5 v_0 v_1 v_2 v_3 v_4 v_5 v_6 v_34 v_35 v_36 hm1 hF hX hI ls ?_
        exact lv_sub hl [1, 2, 0] rfl
      · have c_6 : ¬ tn ≤ b1 := fun q => c_6 ((n_le (a := tn) (b := b1) (by omega) (by omega)).mpr q)
        refine lv_aload_n hx hb d_MO_read_33 rfl (lv_at hl 0 rfl) ?_
        refine lv_iload_n hx hb d_MO_read_34 rfl (lv_at hl 1 rfl) ?_
        have hzA := hI.2.2.2.1
        refine f_calli hI (f_runV C hI (c_MO_rule l G h1 _ x b1 e1 w1 L rg1 mf1 g_x tn tx ⟨a0, ⟨v_0, v_1⟩, g_a0, btn, btx⟩ ⟨a2, v_2, g_a2, brg1⟩ hS1 v_34 v_35 v_36 bb1 be1 hrep1 bL) gm_MO_rule w_947 p_MO_rule w_945 g_x rfl rfl rfl hl.1 rfl (Nat.le_of_ble_eq_true rfl) ⟨Nat.le_of_ble_eq_true rfl, Nat.le_of_ble_eq_true rfl⟩ d_MO_read_35 ⟨Nat.le_of_ble_eq_true rfl, Nat.le_of_ble_eq_true rfl⟩) (fun r_10 h9 H9 locs hp9 hX9 hz9 hI => ?_)
        obtain ⟨ok, b2, e2, w2, rl, rg2, mf_11, hr1, hok, g_x, hm9, v_34, v_35, v_36, bb2, be2, ⟨a9, v_9, g_9, brg2⟩, hrp, hF9⟩ := hp9
        have hm1 : ∀ j, j = 0 ∨ (1 < j ∧ j < 34) ∨ 36 < j → mf_11 j = mf j := fun j hj => (hm9 j (by omega)).trans (hm1 j hj)
        have v_2 := (hm9 2 (by decide)).trans v_2
        have ea : a9 = a2 := by have q := v_9.symm.trans v_2; cases q; rfl
        have g_a2 : h9 a2 = some (43, 0, .inl ((G.2.1 0), 200, .inl (fun i => nI (rg2 i)))) := by rw [← ea]; exact g_9
        have g_a0 := hF9 _ _ _ _ g_a0 (by show ¬ _ ∈ _; decide)
        have g_a3 := hF9 _ _ _ _ g_a3 (by show ¬ _ ∈ _; decide)
        have g_a4 := hF9 _ _ _ _ g_a4 (by show ¬ _ ∈ _; decide)
        have g_a5 := hF9 _ _ _ _ g_a5 (by show ¬ _ ∈ _; decide)
        have v_0 := (hm9 0 (by decide)).trans v_0
        have v_1 := (hm9 1 (by decide)).trans v_1
        have v_3 := (hm9 3 (by decide)).trans v_3
        have v_4 := (hm9 4 (by decide)).trans v_4
        have v_5 := (hm9 5 (by decide)).trans v_5
        have v_6 := (hm9 6 (by decide)).trans v_6
        have hF := hF.tr (hF9.mono (fun r _ q => (by simp at q ⊢; omega : r ∈ [40, 43, 44, 45])))
        have hX := fX.tr (Nat.le_trans (Nat.le_of_eq hsz.symm) hzA) hX hX9
        rw [hok]
        clear hok
        cases ok with
        | false =>
          refine f_asi (show (if false = true then (1 : Int32) else 0) = 0 from rfl) ?_
          refine lv_istore_n (lv' := [(2, .int 0), (0, .ref x), (1, .int (nI L.length))]) hx hb d_MO_read_38 rfl hl (by decide) rfl (fun ls hl => ?_)
          refine lv_iinc (v := nI (L.length + 1)) (lv' := [(1, .int (nI (L.length + 1))), (2, .int 0), (0, .ref x)]) hx hb d_MO_read_39 hl (k := 2) rfl (f_inc1 _) (by decide) rfl (fun ls hl => ?_)
          refine lv_goto (tgt := 18) hx hb d_MO_read_42 (by decide) ?_
          refine lv_iload_n hx hb d_MO_read_18 rfl (lv_at hl 1 rfl) ?_
          refine lv_if_eq (tgt := 45) hx hb d_MO_read_19 (by decide) (fun c_12 => ?_) (fun c_12 => absurd (by decide) c_12)
          refine lv_aload_n hx hb d_MO_read_45 rfl (lv_at hl 2 rfl) ?_
          refine lv_iconst (v := 0) hx hb d_MO_read_46 (by decide) ?_
          refine f_put (C := "DutyRulesModel") (T := T_MO) (N := 40) (fs' := mo (va_up mf_11 1 (.int 0))) (v := .int 0) hx hb (fun w q => hT w (s_MO w q)) t_MO k_MO n_MO hown hK hI g_x (by decide) rfl 1 (by decide) (hT _ w_810) (fun _ q => q) rfl rfl rfl (by rw [mo_len]; decide) (mo_set _) d_MO_read_47 (fun H locs hI => ?_)
          generalize emf_13 : va_up mf_11 1 (.int 0) = mf_13 at hI
          have v_0 : mf_13 0 = .ref a0 := (congrFun emf_13 0).symm.trans ((va_up_ne _ _ (by decide)).trans v_0)
          have v_2 : mf_13 2 = .ref a2 := (congrFun emf_13 2).symm.trans ((va_up_ne _ _ (by decide)).trans v_2)
          have v_3 : mf_13 3 = .ref a3 := (congrFun emf_13 3).symm.trans ((va_up_ne _ _ (by decide)).trans v_3)
          have v_4 : mf_13 4 = .ref a4 := (congrFun emf_13 4).symm.trans ((va_up_ne _ _ (by decide)).trans v_4)
          have v_5 : mf_13 5 = .ref a5 := (congrFun emf_13 5).symm.trans ((va_up_ne _ _ (by decide)).trans v_5)
          have v_6 : mf_13 6 = .int (nI ne) := (congrFun emf_13 6).symm.trans ((va_up_ne _ _ (by decide)).trans v_6)
          have v_34 : mf_13 34 = .int (nI b2) := (congrFun emf_13 34).symm.trans ((va_up_ne _ _ (by decide)).trans v_34)
          have v_35 : mf_13 35 = .int (nI e2) := (congrFun emf_13 35).symm.trans ((va_up_ne _ _ (by decide)).trans v_35)
          have v_36 : mf_13 36 = .int (nI w2) := (congrFun emf_13 36).symm.trans ((va_up_ne _ _ (by decide)).trans v_36)
          have v_1 : mf_13 1 = .int 0 := (congrFun emf_13 1).symm.trans (va_up_self _ _ _)
          generalize eh_14 : fU h9 x (40, 0, .inr (8, mo mf_13)) = h_14 at hI
          have hX := hX.set (e := .inr (8, mo mf_13)) g_x (by decide); rw [eh_14] at hX
          have hF := hF.set (e := .inr (8, mo mf_13)) g_x (by decide); rw [eh_14] at hF
          have g_a0 : h_14 a0 = some (41, 0, .inl ((G.2.1 0), 2000, .inl (fun i => nI (tx i)))) := (congrFun eh_14 a0).symm.trans (fU_keep g_a0 (f_neR g_a0 g_x (by decide)))
          have g_a3 : h_14 a3 = some (44, 0, .inl ((G.2.1 0), 2200, .inl (fun i => nI (rr i)))) := (congrFun eh_14 a3).symm.trans (fU_keep g_a3 (f_neR g_a3 g_x (by decide)))
          have g_a4 : h_14 a4 = some (45, 0, .inl ((G.2.1 0), 11, .inl (fun i => nI (rm i)))) := (congrFun eh_14 a4).symm.trans (fU_keep g_a4 (f_neR g_a4 g_x (by decide)))
          have g_a5 : h_14 a5 = some (46, 0, .inl ((G.2.1 1), 11, .inr (.inl (fun i => lN (ef i))))) := (congrFun eh_14 a5).symm.trans (fU_keep g_a5 (f_neR g_a5 g_x (by decide)))
          have g_a2 : h_14 a2 = some (43, 0, .inl ((G.2.1 0), 200, .inl (fun i => nI (rg2 i)))) := (congrFun eh_14 a2).symm.trans (fU_keep g_a2 (f_neR g_a2 g_x (by decide)))
          have g_x : h_14 x = some (40, 0, .inr (8, mo mf_13)) := (congrFun eh_14 x).symm.trans (fU_self _ _ _)
          have hm1 : ∀ j, j = 0 ∨ (1 < j ∧ j < 34) ∨ 36 < j → mf_13 j = mf j := fun j hj => (congrFun emf_13 j).symm.trans ((va_up_ne _ _ (by omega)).trans (hm1 j hj))
          refine lv_iload_n hx hb d_MO_read_50 rfl (lv_at hl 1 rfl) ?_
          refine lv_if_ne (tgt := 61) hx hb d_MO_read_51 (by decide) (fun c_15 => absurd (by decide) c_15) (fun c_15 => ?_)
          refine lv_iconst (v := (-1)) hx hb d_MO_read_54 (by decide) ?_
          refine lv_aload_n hx hb d_MO_read_55 rfl (lv_at hl 2 rfl) ?_
          refine f_get (C := "DutyRulesModel") (T := T_MO) (N := 40) hx hb (fun w q => hT w (s_MO w q)) hown hK hI g_x rfl 36 (by decide) (hT _ w_845) (fun _ q => q) (mo_get (by decide) v_36) d_MO_read_56 ?_
          refine lv_isub hx hb d_MO_read_59 ?_
          exact f_iret C hr hI ⟨rg2, mf_13, g_x, hm1, ⟨a0, ⟨v_0, v_1⟩, g_a0, Nat.zero_le _, btx⟩, ⟨a2, v_2, g_a2, brg2⟩, hF, Or.inl (by rw [hrd, rdS_bad (by omega) hr1]; exact ⟨rfl, rfl, ⟨a3, a4, a5, ⟨v_3, v_4, v_5, v_6⟩, ⟨g_a3, g_a4, g_a5⟩, bne, brm, bef, brr, brk⟩⟩)⟩ hX (Nat.le_refl _) (Nat.le_refl _) d_MO_read_60
        | true =>
          refine f_asi (show (if true = true then (1 : Int32) else 0) = 1 from rfl) ?_
          refine lv_istore_n (lv' := [(2, .int 1), (0, .ref x), (1, .int (nI L.length))]) hx hb d_MO_read_38 rfl hl (by decide) rfl (fun ls hl => ?_)
          refine lv_iinc (v := nI (L.length + 1)) (lv' := [(1, .int (nI (L.length + 1))), (2, .int 1), (0, .ref x)]) hx hb d_MO_read_39 hl (k := 2) rfl (f_inc1 _) (by decide) rfl (fun ls hl => ?_)
          refine lv_goto (tgt := 18) hx hb d_MO_read_42 (by decide) ?_
          have hlt : L.length < 40 := Nat.lt_of_le_of_ne bL (fun q => by rw [rule1_no (Or.inr (Or.inl q))] at hr1; cases hr1)
          have hlen : (L ++ [rl]).length = L.length + 1 := by simp
          refine ih (L ++ [rl]) b2 e2 w2 rg2 (by rw [hlen]; omega) (by rw [hlen]; omega) (hrd.trans (rdS_ok (by omega) hr1)) bb2 be2 brg2 (hrp rfl) _ mf_11 _ _ g_x g_a0 g_a2 g_a3 g_a4 g_a5 v_0 v_1 v_2 v_3 v_4 v_5 v_6 v_34 v_35 v_36 hm1 hF hX hI ls ?_
          rw [hlen]
          exact lv_sub hl [2, 0, 1] rfl
  refine lv_aload_n hx hb d_MO_read_0 rfl (lv_at hl 0 rfl) ?_
  refine lv_iconst (v := 0) hx hb d_MO_read_1 (by decide) ?_
  refine f_put (C := "DutyRulesModel") (T := T_MO) (N := 40) (fs' := mo (va_up mf 35 (.int 0))) (v := .int 0) hx hb (fun w q => hT w (s_MO w q)) t_MO k_MO n_MO hown hK hI g_x (by decide) rfl 35 (by decide) (hT _ w_844) (fun _ q => q) rfl rfl rfl (by rw [mo_len]; decide) (mo_set _) d_MO_read_2 (fun H locs hI => ?_)
  generalize emf_16 : va_up mf 35 (.int 0) = mf_16 at hI
  have v_0 : mf_16 0 = .ref a0 := (congrFun emf_16 0).symm.trans ((va_up_ne _ _ (by decide)).trans v_0)
  have v_1 : mf_16 1 = .int (nI tn) := (congrFun emf_16 1).symm.trans ((va_up_ne _ _ (by decide)).trans v_1)
  have v_2 : mf_16 2 = .ref a2 := (congrFun emf_16 2).symm.trans ((va_up_ne _ _ (by decide)).trans v_2)
  have v_3 : mf_16 3 = .ref a3 := (congrFun emf_16 3).symm.trans ((va_up_ne _ _ (by decide)).trans v_3)
  have v_4 : mf_16 4 = .ref a4 := (congrFun emf_16 4).symm.trans ((va_up_ne _ _ (by decide)).trans v_4)
  have v_5 : mf_16 5 = .ref a5 := (congrFun emf_16 5).symm.trans ((va_up_ne _ _ (by decide)).trans v_5)
  have v_6 : mf_16 6 = .int (nI ne) := (congrFun emf_16 6).symm.trans ((va_up_ne _ _ (by decide)).trans v_6)
  have v_35 : mf_16 35 = .int 0 := (congrFun emf_16 35).symm.trans (va_up_self _ _ _)
  generalize eh_17 : fU h x (40, 0, .inr (8, mo mf_16)) = h_17 at hI
  have hX := hX.set (e := .inr (8, mo mf_16)) g_x (by decide); rw [eh_17] at hX
  have hF := hF.set (e := .inr (8, mo mf_16)) g_x (by decide); rw [eh_17] at hF
  have g_a0 : h_17 a0 = some (41, 0, .inl ((G.2.1 0), 2000, .inl (fun i => nI (tx i)))) := (congrFun eh_17 a0).symm.trans (fU_keep g_a0 (f_neR g_a0 g_x (by decide)))
  have g_a2 : h_17 a2 = some (43, 0, .inl ((G.2.1 0), 200, .inl (fun i => nI (rg i)))) := (congrFun eh_17 a2).symm.trans (fU_keep g_a2 (f_neR g_a2 g_x (by decide)))
  have g_a3 : h_17 a3 = some (44, 0, .inl ((G.2.1 0), 2200, .inl (fun i => nI (rr i)))) := (congrFun eh_17 a3).symm.trans (fU_keep g_a3 (f_neR g_a3 g_x (by decide)))
  have g_a4 : h_17 a4 = some (45, 0, .inl ((G.2.1 0), 11, .inl (fun i => nI (rm i)))) := (congrFun eh_17 a4).symm.trans (fU_keep g_a4 (f_neR g_a4 g_x (by decide)))
  have g_a5 : h_17 a5 = some (46, 0, .inl ((G.2.1 1), 11, .inr (.inl (fun i => lN (ef i))))) := (congrFun eh_17 a5).symm.trans (fU_keep g_a5 (f_neR g_a5 g_x (by decide)))
  have g_x : h_17 x = some (40, 0, .inr (8, mo mf_16)) := (congrFun eh_17 x).symm.trans (fU_self _ _ _)
  have hm1 : ∀ j, j = 0 ∨ (1 < j ∧ j < 34) ∨ 36 < j → mf_16 j = mf j := fun j hj => (congrFun emf_16 j).symm.trans ((va_up_ne _ _ (by omega)).trans (hm1 j hj))
  refine lv_aload_n hx hb d_MO_read_5 rfl (lv_at hl 0 rfl) ?_
  refine lv_iconst (v := (-1)) hx hb d_MO_read_6 (by decide) ?_
  refine f_put (C := "DutyRulesModel") (T := T_MO) (N := 40) (fs' := mo (va_up mf_16 36 (.int (-1)))) (v := .int (-1)) hx hb (fun w q => hT w (s_MO w q)) t_MO k_MO n_MO hown hK hI g_x (by decide) rfl 36 (by decide) (hT _ w_845) (fun _ q => q) rfl rfl rfl (by rw [mo_len]; decide) (mo_set _) d_MO_read_7 (fun H locs hI => ?_)
  generalize emf_18 : va_up mf_16 36 (.int (-1)) = mf_18 at hI
  have v_0 : mf_18 0 = .ref a0 := (congrFun emf_18 0).symm.trans ((va_up_ne _ _ (by decide)).trans v_0)
  have v_1 : mf_18 1 = .int (nI tn) := (congrFun emf_18 1).symm.trans ((va_up_ne _ _ (by decide)).trans v_1)
  have v_2 : mf_18 2 = .ref a2 := (congrFun emf_18 2).symm.trans ((va_up_ne _ _ (by decide)).trans v_2)
  have v_3 : mf_18 3 = .ref a3 := (congrFun emf_18 3).symm.trans ((va_up_ne _ _ (by decide)).trans v_3)
  have v_4 : mf_18 4 = .ref a4 := (congrFun emf_18 4).symm.trans ((va_up_ne _ _ (by decide)).trans v_4)
  have v_5 : mf_18 5 = .ref a5 := (congrFun emf_18 5).symm.trans ((va_up_ne _ _ (by decide)).trans v_5)
  have v_6 : mf_18 6 = .int (nI ne) := (congrFun emf_18 6).symm.trans ((va_up_ne _ _ (by decide)).trans v_6)
  have v_35 : mf_18 35 = .int 0 := (congrFun emf_18 35).symm.trans ((va_up_ne _ _ (by decide)).trans v_35)
  have v_36 : mf_18 36 = .int (-1) := (congrFun emf_18 36).symm.trans (va_up_self _ _ _)
  generalize eh_19 : fU h_17 x (40, 0, .inr (8, mo mf_18)) = h_19 at hI
  have hX := hX.set (e := .inr (8, mo mf_18)) g_x (by decide); rw [eh_19] at hX
  have hF := hF.set (e := .inr (8, mo mf_18)) g_x (by decide); rw [eh_19] at hF
  have g_a0 : h_19 a0 = some (41, 0, .inl ((G.2.1 0), 2000, .inl (fun i => nI (tx i)))) := (congrFun eh_19 a0).symm.trans (fU_keep g_a0 (f_neR g_a0 g_x (by decide)))
  have g_a2 : h_19 a2 = some (43, 0, .inl ((G.2.1 0), 200, .inl (fun i => nI (rg i)))) := (congrFun eh_19 a2).symm.trans (fU_keep g_a2 (f_neR g_a2 g_x (by decide)))
  have g_a3 : h_19 a3 = some (44, 0, .inl ((G.2.1 0), 2200, .inl (fun i => nI (rr i)))) := (congrFun eh_19 a3).symm.trans (fU_keep g_a3 (f_neR g_a3 g_x (by decide)))
  have g_a4 : h_19 a4 = some (45, 0, .inl ((G.2.1 0), 11, .inl (fun i => nI (rm i)))) := (congrFun eh_19 a4).symm.trans (fU_keep g_a4 (f_neR g_a4 g_x (by decide)))
  have g_a5 : h_19 a5 = some (46, 0, .inl ((G.2.1 1), 11, .inr (.inl (fun i => lN (ef i))))) := (congrFun eh_19 a5).symm.trans (fU_keep g_a5 (f_neR g_a5 g_x (by decide)))
  have g_x : h_19 x = some (40, 0, .inr (8, mo mf_18)) := (congrFun eh_19 x).symm.trans (fU_self _ _ _)
  have hm1 : ∀ j, j = 0 ∨ (1 < j ∧ j < 34) ∨ 36 < j → mf_18 j = mf j := fun j hj => (congrFun emf_18 j).symm.trans ((va_up_ne _ _ (by omega)).trans (hm1 j hj))
  refine lv_aload_n hx hb d_MO_read_10 rfl (lv_at hl 0 rfl) ?_
  have hzA := hI.2.2.2.1
  refine f_callv hI (f_runV C hI (c_MO_next l G h_19 _ x 0 (-1) mf_18 g_x tn tx ⟨a0, ⟨v_0, v_1⟩, g_a0, btn, btx⟩ v_35 v_36 (Nat.zero_le _)) gm_MO_next w_940 p_MO_next w_938 g_x rfl rfl rfl hl.1 rfl (Nat.le_of_ble_eq_true rfl) ⟨Nat.le_of_ble_eq_true rfl, Nat.le_of_ble_eq_true rfl⟩ d_MO_read_11 ⟨Nat.le_of_ble_eq_true rfl, Nat.le_of_ble_eq_true rfl⟩) (fun h9 H9 locs hp9 hX9 hz9 hI => ?_)
  obtain ⟨mf_21, g_x, hm9, v_34, v_35, v_36, hF9⟩ := hp9
  have hm1 : ∀ j, j = 0 ∨ (1 < j ∧ j < 34) ∨ 36 < j → mf_21 j = mf j := fun j hj => (hm9 j (by omega)).trans (hm1 j hj)
  have g_a0 := hF9 _ _ _ _ g_a0 (by show ¬ _ ∈ _; decide)
  have g_a2 := hF9 _ _ _ _ g_a2 (by show ¬ _ ∈ _; decide)
  have g_a3 := hF9 _ _ _ _ g_a3 (by show ¬ _ ∈ _; decide)
  have g_a4 := hF9 _ _ _ _ g_a4 (by show ¬ _ ∈ _; decide)
  have g_a5 := hF9 _ _ _ _ g_a5 (by show ¬ _ ∈ _; decide)
  have v_0 := (hm9 0 (by decide)).trans v_0
  have v_1 := (hm9 1 (by decide)).trans v_1
  have v_2 := (hm9 2 (by decide)).trans v_2
  have v_3 := (hm9 3 (by decide)).trans v_3
  have v_4 := (hm9 4 (by decide)).trans v_4
  have v_5 := (hm9 5 (by decide)).trans v_5
  have v_6 := (hm9 6 (by decide)).trans v_6
  have hF := hF.tr (hF9.mono (fun r _ q => (by simp at q ⊢; omega : r ∈ [40, 43, 44, 45])))
  have hX := fX.tr (Nat.le_trans (Nat.le_of_eq hsz.symm) hzA) hX hX9
  have v_36 : mf_21 36 = .int (nI 0) := v_36
  refine lv_iconst (v := 0) hx hb d_MO_read_14 (by decide) ?_
  refine lv_istore_n (lv' := [(1, .int 0), (0, .ref x)]) hx hb d_MO_read_15 rfl hl (by decide) rfl (fun ls hl => ?_)
  refine lv_iconst (v := 1) hx hb d_MO_read_16 (by decide) ?_
  refine lv_istore_n (lv' := [(2, .int 1), (1, .int 0), (0, .ref x)]) hx hb d_MO_read_17 rfl hl (by decide) rfl (fun ls hl => ?_)
  have hbw := wb_le (tx := tx) (Nat.zero_le tn)
  have hew := we_le (tx := tx) hbw.2
  refine J18 41 [] _ _ 0 rg rfl (by decide) rfl hew.1 hew.2 brg (rep5_0 _) _ mf_21 _ _ g_x g_a0 g_a2 g_a3 g_a4 g_a5 v_0 v_1 v_2 v_3 v_4 v_5 v_6 v_34 v_35 v_36 hm1 hF hX hI ls ?_
  exact lv_sub hl [2, 1, 0] rfl
