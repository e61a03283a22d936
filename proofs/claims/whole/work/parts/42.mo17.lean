theorem ob_v {M v : Nat} {ps : List (Nat ⊕ Nat)} {vs : List Nat} : ob (.inl M :: ps) (v :: vs) = 32 :: (dG v ++ ob ps vs) := by rw [ob]
theorem gm_MO_write : gM y_MO_write b_MO_write 7 (some .int) 1 := ⟨w_978, w_10, ⟨by decide, by decide⟩, by decide +kernel⟩
set_option maxHeartbeats 4000000 in
set_option maxRecDepth 100000 in
/-- MO_write  -/
theorem c_MO_write (l : Launch) (G : gG) (h : fH) (sz : Nat) (x : Nat) (wi : Int32) (L : List rlT) (mf : Nat → Value) (g_x : h x = some (40, 0, .inr (8, mo mf))) (ne : Nat) (ef rr rm : Nat → Nat) (hEd : mEd G h mf ne ef rr rm) (hS : sT G h 0 0 7 (G.2.2.2 7) aL 63) (hrep : rep5 (fun i => rr (2000 + i)) L) (hrm : rm 10 = L.length) : cM l y_MO_write b_MO_write 7 (some .int) { frames := 7, cells := 0, slots := 0, locals := 152 } G [.ref x, .int wi] h sz (cQi G h sz (fun r h' => r = gtL wi (ot L) ∧ ∃ mf', h' x = some (40, 0, .inr (8, mo mf')) ∧ (∀ j, j < 37 → mf' j = mf j) ∧ fF (inR [40]) h h')) := by
  refine f_start (by decide) (Nat.le_of_ble_eq_true rfl) ?_
  intro p e s m below meth c ls C hr hsz hI hl
  obtain ⟨hx, hb, hml, hown, hnm, hlk, hT, hG, hZ⟩ := id C
  have hK := hG.1
  have hX : fX h sz h := fX.rf
  have hl : lv_has ls 7 [(0, .ref x), (1, .int wi)] := hl
  obtain ⟨a3, a4, a5, ⟨v_3, v_4, v_5, v_6⟩, ⟨g_a3, g_a4, g_a5⟩, bne, brm, bef, brr, brk⟩ := hEd
  have hF : fF (inR [40]) h h := fF.rf
  have hm1 : ∀ j, j < 37 → mf j = mf j := fun _ _ => rfl
  have hz0 := hI.2.2.2.1
  have h40 : L.length ≤ 40 := by rw [← hrm]; exact brm 10
  have hwfL : ∀ r ∈ L, wfR r := fun r hr => by obtain ⟨j, hj⟩ := List.mem_iff_getElem?.mp hr; exact (hrep j r hj).2.2
  have J17 : ∀ (d n : Nat), n + d = L.length → ∀ (h1 : fH) (mf1 : Nat → Value) (H : Heap) (locs : List Loc), h1 x = some (40, 0, .inr (8, mo mf1)) → h1 a3 = some (44, 0, .inl ((G.2.1 0), 2200, .inl (fun i => nI (rr i)))) → h1 a4 = some (45, 0, .inl ((G.2.1 0), 11, .inl (fun i => nI (rm i)))) → mf1 3 = .ref a3 → mf1 4 = .ref a4 → mf1 37 = .int wi → mf1 38 = .int (gtL wi (ot (L.take n))) → mf1 39 = .int (nI (ot (L.take n)).length) → (∀ j, j < 37 → mf1 j = mf j) → fF (inR [40]) h h1 → fX h sz h1 → fI G.1 g_cl (fA h sz) s.heap h1 H locs → ∀ ls : Array Slot, lv_has ls 7 [(0, .ref x), (1, .int wi), (2, .int (nI n))] → W p l e { frames := 7, cells := 0, slots := 0, locals := 152 } s m ([.ref x, .int wi] : List Value).toArray below meth c H locs 0 0 (MQ below (cQi G h sz (fun r h' => r = gtL wi (ot L) ∧ ∃ mf', h' x = some (40, 0, .inr (8, mo mf')) ∧ (∀ j, j < 37 → mf' j = mf j) ∧ fF (inR [40]) h h')) ([.ref x, .int wi] : List Value).toArray s 0 0 (fA h sz)) (F0 m 17 ls []) := by
    intro d
    induction d with
    | zero =>
      intro n hn h1 mf1 H locs g_x g_a3 g_a4 v_3 v_4 v_37 v_38 v_39 hm1 hF hX hI ls hl
      have hn2 : L.take n = L := List.take_of_length_le (by omega)
      refine lv_iload_n hx hb d_MO_write_17 rfl (lv_at hl 2 rfl) ?_
      refine lv_aload_n hx hb d_MO_write_18 rfl (lv_at hl 0 rfl) ?_
      refine f_get (C := "DutyRulesModel") (T := T_MO) (N := 40) hx hb (fun w q => hT w (s_MO w q)) hown hK hI g_x rfl 4 (by decide) (hT _ w_813) (fun _ q => q) (mo_get (by decide) v_4) d_MO_write_19 ?_
      refine lv_bipush (v := 10) hx hb d_MO_write_22 (by decide) ?_
      refine f_ialdn (k := 10) (v := (nI (rm 10))) hx hb hI g_a4 (fT.ofK hK (t0 := 0) rfl) (by omega) (by omega) rfl d_MO_write_24 ?_
      refine lv_icmp_ge (tgt := 144) hx hb d_MO_write_25 (by decide) (fun c_1 => ?_) (fun c_1 => absurd ((n_le (a := rm 10) (b := n) (by omega) (by omega)).mpr (by omega)) c_1)
      refine lv_aload_n hx hb d_MO_write_144 rfl (lv_at hl 0 rfl) ?_
      refine f_get (C := "DutyRulesModel") (T := T_MO) (N := 40) hx hb (fun w q => hT w (s_MO w q)) hown hK hI g_x rfl 38 (by decide) (hT _ w_847) (fun _ q => q) (mo_get (by decide) v_38) d_MO_write_145 ?_
      exact f_iret C hr hI ⟨by rw [hn2], mf1, g_x, hm1, hF⟩ hX (Nat.le_refl _) (Nat.le_refl _) d_MO_write_148
    | succ d ih17 =>
      intro n hn
      have ih17 : ∀ n : Nat, n + d = L.length → ∀ (h1 : fH) (mf1 : Nat → Value) (H : Heap) (locs : List Loc), h1 x = some (40, 0, .inr (8, mo mf1)) → h1 a3 = some (44, 0, .inl ((G.2.1 0), 2200, .inl (fun i => nI (rr i)))) → h1 a4 = some (45, 0, .inl ((G.2.1 0), 11, .inl (fun i => nI (rm i)))) → mf1 3 = .ref a3 → mf1 4 = .ref a4 → mf1 37 = .int wi → mf1 38 = .int (gtL wi (ot (L.take n))) → mf1 39 = .int (nI (ot (L.take n)).length) → (∀ j, j < 37 → mf1 j = mf j) → fF (inR [40]) h h1 → fX h sz h1 → fI G.1 g_cl (fA h sz) s.heap h1 H locs → ∀ ls : Array Slot, lv_has ls 7 [(0, .ref x), (1, .int wi), (2, .int (nI n))] → W p l e { frames := 7, cells := 0, slots := 0, locals := 152 } s m ([.ref x, .int wi] : List Value).toArray below meth c H locs 0 0 (MQ below (cQi G h sz (fun r h' => r = gtL wi (ot L) ∧ ∃ mf', h' x = some (40, 0, .inr (8, mo mf')) ∧ (∀ j, j < 37 → mf' j = mf j) ∧ fF (inR [40]) h h')) ([.ref x, .int wi] : List Value).toArray s 0 0 (fA h sz)) (F0 m 17 ls []) := ih17
      obtain ⟨⟨K, vs⟩, hr0⟩ : ∃ r, L[n]? = some r := ⟨L[n], List.getElem?_eq_getElem (by omega)⟩
      obtain ⟨hk5, hv5, hwf⟩ := hrep n _ hr0
      dsimp only at hk5 hv5
      have hK6 : K < 6 := hwf.1
      have hvn : vs.length = nv K := hwf.2.1
      have hpo := plg_ok K hK6
      have hT0 : (ot (L.take n)).length ≤ 4000 := Nat.le_trans (ot_len _ (fun r hr => hwfL r (List.mem_of_mem_take hr))) (by rw [List.length_take]; omega)
      have hln := ln_len (r := (K, vs)) hK6
      have J52 : ∀ (d2 k : Nat), k + (d2 + 1) = plL K → ∀ Wt : List Nat, Wt ++ ob ((pl K).drop k) (vs.drop (vl K k)) = ot (L.take n) ++ ln (K, vs) → ∀ (h1 : fH) (mf1 : Nat → Value) (H : Heap) (locs : List Loc), h1 x = some (40, 0, .inr (8, mo mf1)) → h1 a3 = some (44, 0, .inl ((G.2.1 0), 2200, .inl (fun i => nI (rr i)))) → h1 a4 = some (45, 0, .inl ((G.2.1 0), 11, .inl (fun i => nI (rm i)))) → mf1 3 = .ref a3 → mf1 4 = .ref a4 → mf1 37 = .int wi → mf1 38 = .int (gtL wi Wt) → mf1 39 = .int (nI Wt.length) → (∀ j, j < 37 → mf1 j = mf j) → fF (inR [40]) h h1 → fX h sz h1 → fI G.1 g_cl (fA h sz) s.heap h1 H locs → ∀ ls : Array Slot, lv_has ls 7 [(0, .ref x), (1, .int wi), (2, .int (nI n)), (3, .int (nI (2000 + 5 * n))), (4, .int (nI (vl K k))), (5, .int (nI k))] → W p l e { frames := 7, cells := 0, slots := 0, locals := 152 } s m ([.ref x, .int wi] : List Value).toArray below meth c H locs 0 0 (MQ below (cQi G h sz (fun r h' => r = gtL wi (ot L) ∧ ∃ mf', h' x = some (40, 0, .inr (8, mo mf')) ∧ (∀ j, j < 37 → mf' j = mf j) ∧ fF (inR [40]) h h')) ([.ref x, .int wi] : List Value).toArray s 0 0 (fA h sz)) (F0 m 52 ls []) := by
        intro d2
        induction d2 with
        | zero =>
          intro k hkd Wt hW h1 mf1 H locs g_x g_a3 g_a4 v_3 v_4 v_37 v_38 v_39 hm1 hF hX hI ls hl
          have hWl : Wt.length ≤ 5000 := by have q := congrArg List.length hW; rw [List.length_append, List.length_append] at q; omega
          have hk8 : k < plL K := by omega
          have hdr := pl_drop hk8
          have hz7 := hI.2.2.2.1
          rcases hp : plg K k with M | wd
          · exact absurd (plg_l hK6 hk8 hp).2.2.2 (by omega)
          · have hpr := plg_r hK6 hk8 hp
            have hw13 := hpr.1
            have hwd : wd = 12 := hpr.2.2.mpr (by omega)
            refine lv_aload_n hx hb d_MO_write_52 rfl (lv_at hl 0 rfl) ?_
            refine f_get (C := "DutyRulesModel") (T := T_MO) (N := 40) hx hb (fun w q => hT w (s_MO w q)) hown hK hI g_x rfl 3 (by decide) (hT _ w_812) (fun _ q => q) (mo_get (by decide) v_3) d_MO_write_53 ?_
            refine lv_iload_n hx hb d_MO_write_56 rfl (lv_at hl 3 rfl) ?_
            refine f_ialdn (k := (2000 + 5 * n)) (v := (nI (rr (2000 + 5 * n)))) hx hb hI g_a3 (fT.ofK hK (t0 := 0) rfl) (by omega) (by omega) rfl d_MO_write_57 ?_
            refine f_asi (congrArg nI hk5) ?_
            refine lv_iload hx hb d_MO_write_58 (lv_at hl 5 rfl) ?_
            refine f_calli hI (f_runS C hI (c_MO_part l G h1 _ (nI K) (nI k)) gm_MO_part w_962 w_961 rfl hl.1 rfl (Nat.le_of_ble_eq_true rfl) ⟨Nat.le_of_ble_eq_true rfl, Nat.le_of_ble_eq_true rfl⟩ d_MO_write_60 ⟨Nat.le_of_ble_eq_true rfl, Nat.le_of_ble_eq_true rfl⟩) (fun r_2 h8 H9 locs hp9 hX9 hz9 hI => ?_)
            obtain ⟨rfl, e9⟩ := hp9
            rw [e9] at hI
            clear hX9 e9
            refine f_asi ((part_n K hK6 k (by omega) hk8).trans (show pv (plg K k) = pv (.inr wd) by rw [hp])) ?_
            refine lv_bipush (v := (-112)) hx hb d_MO_write_63 (by decide) ?_
            refine lv_icmp_eq (tgt := 126) hx hb d_MO_write_65 (by decide) (fun c_3 => ?_) (fun c_3 => absurd ((pv_12 wd hw13).mpr hwd) c_3)
            refine lv_aload_n hx hb d_MO_write_126 rfl (lv_at hl 0 rfl) ?_
            refine lv_bipush (v := 59) hx hb d_MO_write_127 (by decide) ?_
            have hzA := hI.2.2.2.1
            refine f_callv hI (f_runV C hI (c_MO_put l G h1 _ x 59 wi Wt mf1 g_x ⟨v_37, v_38, v_39⟩ (by (try simp only [List.length_append, List.length_cons, List.length_nil]); omega)) gm_MO_put w_985 p_MO_put w_983 g_x rfl rfl rfl hl.1 rfl (Nat.le_of_ble_eq_true rfl) ⟨Nat.le_of_ble_eq_true rfl, Nat.le_of_ble_eq_true rfl⟩ d_MO_write_129 ⟨Nat.le_of_ble_eq_true rfl, Nat.le_of_ble_eq_true rfl⟩) (fun h9 H9 locs hp9 hX9 hz9 hI => ?_)
            obtain ⟨mf_5, g_x, hm9, ⟨v_37, v_38, v_39⟩, hF9⟩ := hp9
            have hm1 : ∀ j, j < 37 → mf_5 j = mf j := fun j hj => (hm9 j hj).trans (hm1 j hj)
            have g_a3 := hF9 _ _ _ _ g_a3 (by show ¬ _ ∈ _; decide)
            have g_a4 := hF9 _ _ _ _ g_a4 (by show ¬ _ ∈ _; decide)
            have v_3 := (hm9 3 (by decide)).trans v_3
            have v_4 := (hm9 4 (by decide)).trans v_4
            have hF := hF.tr (hF9.mono (fun r _ q => (by simp at q ⊢; omega : r ∈ [40])))
            have hX := fX.tr (Nat.le_trans (Nat.le_of_eq hsz.symm) hzA) hX hX9
            refine lv_aload_n hx hb d_MO_write_132 rfl (lv_at hl 0 rfl) ?_
            refine lv_bipush (v := 10) hx hb d_MO_write_133 (by decide) ?_
            have hzA := hI.2.2.2.1
            refine f_callv hI (f_runV C hI (c_MO_put l G h9 _ x 10 wi (Wt ++ [59]) mf_5 g_x ⟨v_37, v_38, v_39⟩ (by (try simp only [List.length_append, List.length_cons, List.length_nil]); omega)) gm_MO_put w_985 p_MO_put w_983 g_x rfl rfl rfl hl.1 rfl (Nat.le_of_ble_eq_true rfl) ⟨Nat.le_of_ble_eq_true rfl, Nat.le_of_ble_eq_true rfl⟩ d_MO_write_135 ⟨Nat.le_of_ble_eq_true rfl, Nat.le_of_ble_eq_true rfl⟩) (fun h9 H9 locs hp9 hX9 hz9 hI => ?_)
            obtain ⟨mf_7, g_x, hm9, ⟨v_37, v_38, v_39⟩, hF9⟩ := hp9
            have hm1 : ∀ j, j < 37 → mf_7 j = mf j := fun j hj => (hm9 j hj).trans (hm1 j hj)
            have g_a3 := hF9 _ _ _ _ g_a3 (by show ¬ _ ∈ _; decide)
            have g_a4 := hF9 _ _ _ _ g_a4 (by show ¬ _ ∈ _; decide)
            have v_3 := (hm9 3 (by decide)).trans v_3
            have v_4 := (hm9 4 (by decide)).trans v_4
            have hF := hF.tr (hF9.mono (fun r _ q => (by simp at q ⊢; omega : r ∈ [40])))
            have hX := fX.tr (Nat.le_trans (Nat.le_of_eq hsz.symm) hzA) hX hX9
            refine lv_iinc (v := nI (n + 1)) (lv' := [(2, .int (nI (n + 1))), (0, .ref x), (1, .int wi), (3, .int (nI (2000 + 5 * n))), (4, .int (nI (vl K k))), (5, .int (nI k))]) hx hb d_MO_write_138 hl (k := 2) rfl (f_inc1 _) (by decide) rfl (fun ls hl => ?_)
            refine lv_goto (tgt := 17) hx hb d_MO_write_141 (by decide) ?_
            have eT : (Wt ++ [59]) ++ [10] = ot (L.take (n + 1)) := by rw [ot_take hr0, ← hW, hdr, hp, hwd, ob_12]; simp only [List.append_assoc, List.cons_append, List.nil_append]
            rw [eT] at v_38 v_39
            refine ih17 (n + 1) (by omega) _ mf_7 _ _ g_x g_a3 g_a4 v_3 v_4 v_37 v_38 v_39 hm1 hF hX hI ls ?_
            exact lv_sub hl [1, 2, 0] rfl
        | succ d2 ih =>
          intro k hkd Wt hW h1 mf1 H locs g_x g_a3 g_a4 v_3 v_4 v_37 v_38 v_39 hm1 hF hX hI ls hl
          have ih : ∀ k : Nat, k + (d2 + 1) = plL K → ∀ Wt : List Nat, Wt ++ ob ((pl K).drop k) (vs.drop (vl K k)) = ot (L.take n) ++ ln (K, vs) → ∀ (h1 : fH) (mf1 : Nat → Value) (H : Heap) (locs : List Loc), h1 x = some (40, 0, .inr (8, mo mf1)) → h1 a3 = some (44, 0, .inl ((G.2.1 0), 2200, .inl (fun i => nI (rr i)))) → h1 a4 = some (45, 0, .inl ((G.2.1 0), 11, .inl (fun i => nI (rm i)))) → mf1 3 = .ref a3 → mf1 4 = .ref a4 → mf1 37 = .int wi → mf1 38 = .int (gtL wi Wt) → mf1 39 = .int (nI Wt.length) → (∀ j, j < 37 → mf1 j = mf j) → fF (inR [40]) h h1 → fX h sz h1 → fI G.1 g_cl (fA h sz) s.heap h1 H locs → ∀ ls : Array Slot, lv_has ls 7 [(0, .ref x), (1, .int wi), (2, .int (nI n)), (3, .int (nI (2000 + 5 * n))), (4, .int (nI (vl K k))), (5, .int (nI k))] → W p l e { frames := 7, cells := 0, slots := 0, locals := 152 } s m ([.ref x, .int wi] : List Value).toArray below meth c H locs 0 0 (MQ below (cQi G h sz (fun r h' => r = gtL wi (ot L) ∧ ∃ mf', h' x = some (40, 0, .inr (8, mo mf')) ∧ (∀ j, j < 37 → mf' j = mf j) ∧ fF (inR [40]) h h')) ([.ref x, .int wi] : List Value).toArray s 0 0 (fA h sz)) (F0 m 52 ls []) := ih
          have hWl : Wt.length ≤ 5000 := by have q := congrArg List.length hW; rw [List.length_append, List.length_append] at q; omega
          have hk8 : k < plL K := by omega
          have hdr := pl_drop hk8
          have hz7 := hI.2.2.2.1
          rcases hp : plg K k with M | wd
          · have hpl := plg_l hK6 hk8 hp
            have hvv : rr (2000 + 5 * n + (vl K k + 1)) = vs.getD (vl K k) 0 := (congrArg rr (by omega)).trans (hv5 (vl K k) (by omega))
            have hvb : vs.getD (vl K k) 0 < 1000000000 := by rw [← hvv]; have := brr (2000 + 5 * n + (vl K k + 1)); omega
            refine lv_aload_n hx hb d_MO_write_52 rfl (lv_at hl 0 rfl) ?_
            refine f_get (C := "DutyRulesModel") (T := T_MO) (N := 40) hx hb (fun w q => hT w (s_MO w q)) hown hK hI g_x rfl 3 (by decide) (hT _ w_812) (fun _ q => q) (mo_get (by decide) v_3) d_MO_write_53 ?_
            refine lv_iload_n hx hb d_MO_write_56 rfl (lv_at hl 3 rfl) ?_
            refine f_ialdn (k := (2000 + 5 * n)) (v := (nI (rr (2000 + 5 * n)))) hx hb hI g_a3 (fT.ofK hK (t0 := 0) rfl) (by omega) (by omega) rfl d_MO_write_57 ?_
            refine f_asi (congrArg nI hk5) ?_
            refine lv_iload hx hb d_MO_write_58 (lv_at hl 5 rfl) ?_
            refine f_calli hI (f_runS C hI (c_MO_part l G h1 _ (nI K) (nI k)) gm_MO_part w_962 w_961 rfl hl.1 rfl (Nat.le_of_ble_eq_true rfl) ⟨Nat.le_of_ble_eq_true rfl, Nat.le_of_ble_eq_true rfl⟩ d_MO_write_60 ⟨Nat.le_of_ble_eq_true rfl, Nat.le_of_ble_eq_true rfl⟩) (fun r_8 h8 H9 locs hp9 hX9 hz9 hI => ?_)
            obtain ⟨rfl, e9⟩ := hp9
            rw [e9] at hI
            clear hX9 e9
            refine f_asi ((part_n K hK6 k (by omega) hk8).trans (show pv (plg K k) = nI M by rw [hp]; rfl)) ?_
            refine lv_bipush (v := (-112)) hx hb d_MO_write_63 (by decide) ?_
            refine lv_icmp_eq (tgt := 126) hx hb d_MO_write_65 (by decide) (fun c_9 => absurd c_9 (pv_l (M := M) (by omega))) (fun c_9 => ?_)
            refine lv_aload_n hx hb d_MO_write_68 rfl (lv_at hl 0 rfl) ?_
            refine lv_bipush (v := 32) hx hb d_MO_write_69 (by decide) ?_
            have hzA := hI.2.2.2.1
            refine f_callv hI (f_runV C hI (c_MO_put l G h1 _ x 32 wi Wt mf1 g_x ⟨v_37, v_38, v_39⟩ (by (try simp only [List.length_append, List.length_cons, List.length_nil]); omega)) gm_MO_put w_985 p_MO_put w_983 g_x rfl rfl rfl hl.1 rfl (Nat.le_of_ble_eq_true rfl) ⟨Nat.le_of_ble_eq_true rfl, Nat.le_of_ble_eq_true rfl⟩ d_MO_write_71 ⟨Nat.le_of_ble_eq_true rfl, Nat.le_of_ble_eq_true rfl⟩) (fun h9 H9 locs hp9 hX9 hz9 hI => ?_)
            obtain ⟨mf_11, g_x, hm9, ⟨v_37, v_38, v_39⟩, hF9⟩ := hp9
            have hm1 : ∀ j, j < 37 → mf_11 j = mf j := fun j hj => (hm9 j hj).trans (hm1 j hj)
            have g_a3 := hF9 _ _ _ _ g_a3 (by show ¬ _ ∈ _; decide)
            have g_a4 := hF9 _ _ _ _ g_a4 (by show ¬ _ ∈ _; decide)
            have v_3 := (hm9 3 (by decide)).trans v_3
            have v_4 := (hm9 4 (by decide)).trans v_4
            have hF := hF.tr (hF9.mono (fun r _ q => (by simp at q ⊢; omega : r ∈ [40])))
            have hX := fX.tr (Nat.le_trans (Nat.le_of_eq hsz.symm) hzA) hX hX9
            refine lv_aload_n hx hb d_MO_write_74 rfl (lv_at hl 0 rfl) ?_
            refine f_get (C := "DutyRulesModel") (T := T_MO) (N := 40) hx hb (fun w q => hT w (s_MO w q)) hown hK hI g_x rfl 3 (by decide) (hT _ w_812) (fun _ q => q) (mo_get (by decide) v_3) d_MO_write_75 ?_
            refine lv_iload_n hx hb d_MO_write_78 rfl (lv_at hl 3 rfl) ?_
            refine f_ialdn (k := (2000 + 5 * n)) (v := (nI (rr (2000 + 5 * n)))) hx hb hI g_a3 (fT.ofK hK (t0 := 0) rfl) (by omega) (by omega) rfl d_MO_write_79 ?_
            refine f_asi (congrArg nI hk5) ?_
            refine lv_iload hx hb d_MO_write_80 (lv_at hl 5 rfl) ?_
            refine f_calli hI (f_runS C hI (c_MO_part l G h9 _ (nI K) (nI k)) gm_MO_part w_962 w_961 rfl hl.1 rfl (Nat.le_of_ble_eq_true rfl) ⟨Nat.le_of_ble_eq_true rfl, Nat.le_of_ble_eq_true rfl⟩ d_MO_write_82 ⟨Nat.le_of_ble_eq_true rfl, Nat.le_of_ble_eq_true rfl⟩) (fun r_12 h8 H9 locs hp9 hX9 hz9 hI => ?_)
            obtain ⟨rfl, e9⟩ := hp9
            rw [e9] at hI
            clear hX9 e9
            refine f_asi ((part_n K hK6 k (by omega) hk8).trans (show pv (plg K k) = nI M by rw [hp]; rfl)) ?_
            refine lv_istore (lv' := [(6, .int (nI M)), (0, .ref x), (1, .int wi), (2, .int (nI n)), (3, .int (nI (2000 + 5 * n))), (4, .int (nI (vl K k))), (5, .int (nI k))]) hx hb d_MO_write_85 hl (by decide) rfl (fun ls hl => ?_)
            refine lv_iload hx hb d_MO_write_87 (lv_at hl 0 rfl) ?_
            refine lv_if_ge (tgt := 104) hx hb d_MO_write_89 (by decide) (fun c_13 => ?_) (fun c_13 => absurd (nI_pos' (by omega)) c_13)
            refine lv_iinc (v := nI (vl K k + 1)) (lv' := [(4, .int (nI (vl K k + 1))), (6, .int (nI M)), (0, .ref x), (1, .int wi), (2, .int (nI n)), (3, .int (nI (2000 + 5 * n))), (5, .int (nI k))]) hx hb d_MO_write_104 hl (k := 5) rfl (f_inc1 _) (by decide) rfl (fun ls hl => ?_)
            refine lv_aload_n hx hb d_MO_write_107 rfl (lv_at hl 2 rfl) ?_
            refine lv_aload_n hx hb d_MO_write_108 rfl (lv_at hl 2 rfl) ?_
            refine f_get (C := "DutyRulesModel") (T := T_MO) (N := 40) hx hb (fun w q => hT w (s_MO w q)) hown hK hI g_x rfl 3 (by decide) (hT _ w_812) (fun _ q => q) (mo_get (by decide) v_3) d_MO_write_109 ?_
            refine lv_iload_n hx hb d_MO_write_112 rfl (lv_at hl 5 rfl) ?_
            refine lv_iload hx hb d_MO_write_113 (lv_at hl 0 rfl) ?_
            refine lv_iadd hx hb d_MO_write_115 ?_
            refine f_asi (nI_add (2000 + 5 * n) (vl K k + 1)) ?_
            refine f_ialdn (k := ((2000 + 5 * n) + (vl K k + 1))) (v := (nI (rr ((2000 + 5 * n) + (vl K k + 1))))) hx hb hI g_a3 (fT.ofK hK (t0 := 0) rfl) (by omega) (by omega) rfl d_MO_write_116 ?_
            refine f_asi (congrArg nI hvv) ?_
            have hzA := hI.2.2.2.1
            refine f_callv hI (f_runV C hI (c_MO_digits l G h9 _ x (vs.getD (vl K k) 0) wi (Wt ++ [32]) mf_11 g_x ⟨v_37, v_38, v_39⟩ (by (try simp only [List.length_append, List.length_cons, List.length_nil]); omega) hvb) gm_MO_digits w_989 p_MO_digits w_987 g_x rfl rfl rfl hl.1 rfl (Nat.le_of_ble_eq_true rfl) ⟨Nat.le_of_ble_eq_true rfl, Nat.le_of_ble_eq_true rfl⟩ d_MO_write_117 ⟨Nat.le_of_ble_eq_true rfl, Nat.le_of_ble_eq_true rfl⟩) (fun h9 H9 locs hp9 hX9 hz9 hI => ?_)
            obtain ⟨mf_15, g_x, hm9, ⟨v_37, v_38, v_39⟩, hF9⟩ := hp9
            have hm1 : ∀ j, j < 37 → mf_15 j = mf j := fun j hj => (hm9 j hj).trans (hm1 j hj)
            have g_a3 := hF9 _ _ _ _ g_a3 (by show ¬ _ ∈ _; decide)
            have g_a4 := hF9 _ _ _ _ g_a4 (by show ¬ _ ∈ _; decide)
            have v_3 := (hm9 3 (by decide)).trans v_3
            have v_4 := (hm9 4 (by decide)).trans v_4
            have hF := hF.tr (hF9.mono (fun r _ q => (by simp at q ⊢; omega : r ∈ [40])))
            have hX := fX.tr (Nat.le_trans (Nat.le_of_eq hsz.symm) hzA) hX hX9
            refine lv_iinc (v := nI (k + 1)) (lv' := [(5, .int (nI (k + 1))), (4, .int (nI (vl K k + 1))), (6, .int (nI M)), (0, .ref x), (1, .int wi), (2, .int (nI n)), (3, .int (nI (2000 + 5 * n)))]) hx hb d_MO_write_120 hl (k := 6) rfl (f_inc1 _) (by decide) rfl (fun ls hl => ?_)
            refine lv_goto (tgt := 52) hx hb d_MO_write_123 (by decide) ?_
            refine ih (k + 1) (by omega) ((Wt ++ [32]) ++ dG (vs.getD (vl K k) 0)) (by rw [← hW, hdr, hp, drop_v (k := vl K k) (by omega), hpl.2.1, ob_v]; simp only [List.append_assoc, List.cons_append, List.nil_append]) _ mf_15 _ _ g_x g_a3 g_a4 v_3 v_4 v_37 v_38 v_39 hm1 hF hX hI ls ?_
            rw [hpl.2.1]
            exact lv_sub hl [3, 4, 5, 6, 1, 0] rfl
          · have hpr := plg_r hK6 hk8 hp
            have hw13 := hpr.1
            have hwd : ¬ wd = 12 := fun q => absurd (hpr.2.2.mp q) (by omega)
            refine lv_aload_n hx hb d_MO_write_52 rfl (lv_at hl 0 rfl) ?_
            refine f_get (C := "DutyRulesModel") (T := T_MO) (N := 40) hx hb (fun w q => hT w (s_MO w q)) hown hK hI g_x rfl 3 (by decide) (hT _ w_812) (fun _ q => q) (mo_get (by decide) v_3) d_MO_write_53 ?_
            refine lv_iload_n hx hb d_MO_write_56 rfl (lv_at hl 3 rfl) ?_
            refine f_ialdn (k := (2000 + 5 * n)) (v := (nI (rr (2000 + 5 * n)))) hx hb hI g_a3 (fT.ofK hK (t0 := 0) rfl) (by omega) (by omega) rfl d_MO_write_57 ?_
            refine f_asi (congrArg nI hk5) ?_
            refine lv_iload hx hb d_MO_write_58 (lv_at hl 5 rfl) ?_
            refine f_calli hI (f_runS C hI (c_MO_part l G h1 _ (nI K) (nI k)) gm_MO_part w_962 w_961 rfl hl.1 rfl (Nat.le_of_ble_eq_true rfl) ⟨Nat.le_of_ble_eq_true rfl, Nat.le_of_ble_eq_true rfl⟩ d_MO_write_60 ⟨Nat.le_of_ble_eq_true rfl, Nat.le_of_ble_eq_true rfl⟩) (fun r_16 h8 H9 locs hp9 hX9 hz9 hI => ?_)
            obtain ⟨rfl, e9⟩ := hp9
            rw [e9] at hI
            clear hX9 e9
            refine f_asi ((part_n K hK6 k (by omega) hk8).trans (show pv (plg K k) = pv (.inr wd) by rw [hp])) ?_
            refine lv_bipush (v := (-112)) hx hb d_MO_write_63 (by decide) ?_
            refine lv_icmp_eq (tgt := 126) hx hb d_MO_write_65 (by decide) (fun c_17 => absurd c_17 (fun q => hwd ((pv_12 wd hw13).mp q))) (fun c_17 => ?_)
            refine lv_aload_n hx hb d_MO_write_68 rfl (lv_at hl 0 rfl) ?_
            refine lv_bipush (v := 32) hx hb d_MO_write_69 (by decide) ?_
            have hzA := hI.2.2.2.1
            refine f_callv hI (f_runV C hI (c_MO_put l G h1 _ x 32 wi Wt mf1 g_x ⟨v_37, v_38, v_39⟩ (by (try simp only [List.length_append, List.length_cons, List.length_nil]); omega)) gm_MO_put w_985 p_MO_put w_983 g_x rfl rfl rfl hl.1 rfl (Nat.le_of_ble_eq_true rfl) ⟨Nat.le_of_ble_eq_true rfl, Nat.le_of_ble_eq_true rfl⟩ d_MO_write_71 ⟨Nat.le_of_ble_eq_true rfl, Nat.le_of_ble_eq_true rfl⟩) (fun h9 H9 locs hp9 hX9 hz9 hI => ?_)
            obtain ⟨mf_19, g_x, hm9, ⟨v_37, v_38, v_39⟩, hF9⟩ := hp9
            have hm1 : ∀ j, j < 37 → mf_19 j = mf j := fun j hj => (hm9 j hj).trans (hm1 j hj)
            have g_a3 := hF9 _ _ _ _ g_a3 (by show ¬ _ ∈ _; decide)
            have g_a4 := hF9 _ _ _ _ g_a4 (by show ¬ _ ∈ _; decide)
            have v_3 := (hm9 3 (by decide)).trans v_3
            have v_4 := (hm9 4 (by decide)).trans v_4
            have hF := hF.tr (hF9.mono (fun r _ q => (by simp at q ⊢; omega : r ∈ [40])))
            have hX := fX.tr (Nat.le_trans (Nat.le_of_eq hsz.symm) hzA) hX hX9
            refine lv_aload_n hx hb d_MO_write_74 rfl (lv_at hl 0 rfl) ?_
            refine f_get (C := "DutyRulesModel") (T := T_MO) (N := 40) hx hb (fun w q => hT w (s_MO w q)) hown hK hI g_x rfl 3 (by decide) (hT _ w_812) (fun _ q => q) (mo_get (by decide) v_3) d_MO_write_75 ?_
            refine lv_iload_n hx hb d_MO_write_78 rfl (lv_at hl 3 rfl) ?_
            refine f_ialdn (k := (2000 + 5 * n)) (v := (nI (rr (2000 + 5 * n)))) hx hb hI g_a3 (fT.ofK hK (t0 := 0) rfl) (by omega) (by omega) rfl d_MO_write_79 ?_
            refine f_asi (congrArg nI hk5) ?_
            refine lv_iload hx hb d_MO_write_80 (lv_at hl 5 rfl) ?_
            refine f_calli hI (f_runS C hI (c_MO_part l G h9 _ (nI K) (nI k)) gm_MO_part w_962 w_961 rfl hl.1 rfl (Nat.le_of_ble_eq_true rfl) ⟨Nat.le_of_ble_eq_true rfl, Nat.le_of_ble_eq_true rfl⟩ d_MO_write_82 ⟨Nat.le_of_ble_eq_true rfl, Nat.le_of_ble_eq_true rfl⟩) (fun r_20 h8 H9 locs hp9 hX9 hz9 hI => ?_)
            obtain ⟨rfl, e9⟩ := hp9
            rw [e9] at hI
            clear hX9 e9
            refine f_asi ((part_n K hK6 k (by omega) hk8).trans (show pv (plg K k) = pv (.inr wd) by rw [hp])) ?_
            refine lv_istore (lv' := [(6, .int (pv (.inr wd))), (0, .ref x), (1, .int wi), (2, .int (nI n)), (3, .int (nI (2000 + 5 * n))), (4, .int (nI (vl K k))), (5, .int (nI k))]) hx hb d_MO_write_85 hl (by decide) rfl (fun ls hl => ?_)
            refine lv_iload hx hb d_MO_write_87 (lv_at hl 0 rfl) ?_
            refine lv_if_ge (tgt := 104) hx hb d_MO_write_89 (by decide) (fun c_21 => absurd c_21 (i_nle (pv_w wd hw13).2)) (fun c_21 => ?_)
            refine lv_aload_n hx hb d_MO_write_92 rfl (lv_at hl 1 rfl) ?_
            refine lv_bipush (v := (-100)) hx hb d_MO_write_93 (by decide) ?_
            refine lv_iload hx hb d_MO_write_95 (lv_at hl 0 rfl) ?_
            refine lv_isub hx hb d_MO_write_97 ?_
            refine f_asi (pv_w wd hw13).1 ?_
            have hzA := hI.2.2.2.1
            refine f_callv hI (f_runV C hI (c_MO_say l G h9 _ x wd wi (Wt ++ [32]) mf_19 g_x ⟨v_37, v_38, v_39⟩ (by (try simp only [List.length_append, List.length_cons, List.length_nil]); omega) (hS.keepX hX) hw13) gm_MO_say w_981 p_MO_say w_979 g_x rfl rfl rfl hl.1 rfl (Nat.le_of_ble_eq_true rfl) ⟨Nat.le_of_ble_eq_true rfl, Nat.le_of_ble_eq_true rfl⟩ d_MO_write_98 ⟨Nat.le_of_ble_eq_true rfl, Nat.le_of_ble_eq_true rfl⟩) (fun h9 H9 locs hp9 hX9 hz9 hI => ?_)
            obtain ⟨mf_23, g_x, hm9, ⟨v_37, v_38, v_39⟩, hF9⟩ := hp9
            have hm1 : ∀ j, j < 37 → mf_23 j = mf j := fun j hj => (hm9 j hj).trans (hm1 j hj)
            have g_a3 := hF9 _ _ _ _ g_a3 (by show ¬ _ ∈ _; decide)
            have g_a4 := hF9 _ _ _ _ g_a4 (by show ¬ _ ∈ _; decide)
            have v_3 := (hm9 3 (by decide)).trans v_3
            have v_4 := (hm9 4 (by decide)).trans v_4
            have hF := hF.tr (hF9.mono (fun r _ q => (by simp at q ⊢; omega : r ∈ [40])))
            have hX := fX.tr (Nat.le_trans (Nat.le_of_eq hsz.symm) hzA) hX hX9
            refine lv_goto (tgt := 120) hx hb d_MO_write_101 (by decide) ?_
            refine lv_iinc (v := nI (k + 1)) (lv' := [(5, .int (nI (k + 1))), (6, .int (pv (.inr wd))), (0, .ref x), (1, .int wi), (2, .int (nI n)), (3, .int (nI (2000 + 5 * n))), (4, .int (nI (vl K k)))]) hx hb d_MO_write_120 hl (k := 6) rfl (f_inc1 _) (by decide) rfl (fun ls hl => ?_)
            refine lv_goto (tgt := 52) hx hb d_MO_write_123 (by decide) ?_
            refine ih (k + 1) (by omega) ((Wt ++ [32]) ++ wD wd) (by rw [← hW, hdr, hp, hpr.2.1, ob_w hwd]; simp only [List.append_assoc, List.cons_append, List.nil_append]) _ mf_23 _ _ g_x g_a3 g_a4 v_3 v_4 v_37 v_38 v_39 hm1 hF hX hI ls ?_
            rw [hpr.2.1]
            exact lv_sub hl [2, 3, 4, 5, 6, 0] rfl
      intro h1 mf1 H locs g_x g_a3 g_a4 v_3 v_4 v_37 v_38 v_39 hm1 hF hX hI ls hl
      have hz7 := hI.2.2.2.1
      refine lv_iload_n hx hb d_MO_write_17 rfl (lv_at hl 2 rfl) ?_
      refine lv_aload_n hx hb d_MO_write_18 rfl (lv_at hl 0 rfl) ?_
      refine f_get (C := "DutyRulesModel") (T := T_MO) (N := 40) hx hb (fun w q => hT w (s_MO w q)) hown hK hI g_x rfl 4 (by decide) (hT _ w_813) (fun _ q => q) (mo_get (by decide) v_4) d_MO_write_19 ?_
      refine lv_bipush (v := 10) hx hb d_MO_write_22 (by decide) ?_
      refine f_ialdn (k := 10) (v := (nI (rm 10))) hx hb hI g_a4 (fT.ofK hK (t0 := 0) rfl) (by omega) (by omega) rfl d_MO_write_24 ?_
      refine lv_icmp_ge (tgt := 144) hx hb d_MO_write_25 (by decide) (fun c_24 => absurd c_24 (fun q => absurd ((n_le (a := rm 10) (b := n) (by omega) (by omega)).mp q) (by omega))) (fun c_24 => ?_)
      refine lv_sipush (v := 2000) hx hb d_MO_write_28 (by decide) ?_
      refine lv_iconst (v := 5) hx hb d_MO_write_31 (by decide) ?_
      refine lv_iload_n hx hb d_MO_write_32 rfl (lv_at hl 2 rfl) ?_
      refine lv_imul hx hb d_MO_write_33 ?_
      refine f_asi (pk_mul 5 n) ?_
      refine lv_iadd hx hb d_MO_write_34 ?_
      refine f_asi (nI_add 2000 (5 * n)) ?_
      refine lv_istore_n (lv' := [(3, .int (nI (2000 + (5 * n)))), (0, .ref x), (1, .int wi), (2, .int (nI n))]) hx hb d_MO_write_35 rfl hl (by decide) rfl (fun ls hl => ?_)
      refine lv_aload_n hx hb d_MO_write_36 rfl (lv_at hl 1 rfl) ?_
      refine lv_aload_n hx hb d_MO_write_37 rfl (lv_at hl 1 rfl) ?_
      refine f_get (C := "DutyRulesModel") (T := T_MO) (N := 40) hx hb (fun w q => hT w (s_MO w q)) hown hK hI g_x rfl 3 (by decide) (hT _ w_812) (fun _ q => q) (mo_get (by decide) v_3) d_MO_write_38 ?_
      refine lv_iload_n hx hb d_MO_write_41 rfl (lv_at hl 0 rfl) ?_
      refine f_ialdn (k := (2000 + (5 * n))) (v := (nI (rr (2000 + (5 * n))))) hx hb hI g_a3 (fT.ofK hK (t0 := 0) rfl) (by omega) (by omega) rfl d_MO_write_42 ?_
      refine f_asi (congrArg nI hk5) ?_
      have hzA := hI.2.2.2.1
      refine f_callv hI (f_runV C hI (c_MO_say l G h1 _ x K wi (ot (L.take n)) mf1 g_x ⟨v_37, v_38, v_39⟩ (by (try simp only [List.length_append, List.length_cons, List.length_nil]); omega) (hS.keepX hX) (by omega)) gm_MO_say w_981 p_MO_say w_979 g_x rfl rfl rfl hl.1 rfl (Nat.le_of_ble_eq_true rfl) ⟨Nat.le_of_ble_eq_true rfl, Nat.le_of_ble_eq_true rfl⟩ d_MO_write_43 ⟨Nat.le_of_ble_eq_true rfl, Nat.le_of_ble_eq_true rfl⟩) (fun h9 H9 locs hp9 hX9 hz9 hI => ?_)
      obtain ⟨mf_26, g_x, hm9, ⟨v_37, v_38, v_39⟩, hF9⟩ := hp9
      have hm1 : ∀ j, j < 37 → mf_26 j = mf j := fun j hj => (hm9 j hj).trans (hm1 j hj)
      have g_a3 := hF9 _ _ _ _ g_a3 (by show ¬ _ ∈ _; decide)
      have g_a4 := hF9 _ _ _ _ g_a4 (by show ¬ _ ∈ _; decide)
      have v_3 := (hm9 3 (by decide)).trans v_3
      have v_4 := (hm9 4 (by decide)).trans v_4
      have hF := hF.tr (hF9.mono (fun r _ q => (by simp at q ⊢; omega : r ∈ [40])))
      have hX := fX.tr (Nat.le_trans (Nat.le_of_eq hsz.symm) hzA) hX hX9
      refine lv_iconst (v := 0) hx hb d_MO_write_46 (by decide) ?_
      refine lv_istore (lv' := [(4, .int 0), (3, .int (nI (2000 + (5 * n)))), (0, .ref x), (1, .int wi), (2, .int (nI n))]) hx hb d_MO_write_47 hl (by decide) rfl (fun ls hl => ?_)
      refine lv_iconst (v := 0) hx hb d_MO_write_49 (by decide) ?_
      refine lv_istore (lv' := [(5, .int 0), (4, .int 0), (3, .int (nI (2000 + (5 * n)))), (0, .ref x), (1, .int wi), (2, .int (nI n))]) hx hb d_MO_write_50 hl (by decide) rfl (fun ls hl => ?_)
      refine J52 (plL K - 1) 0 (by omega) (ot (L.take n) ++ wD K) (by rw [hpo.2.1, List.drop_zero, List.drop_zero]; simp only [ln, List.append_assoc]) _ mf_26 _ _ g_x g_a3 g_a4 v_3 v_4 v_37 v_38 v_39 hm1 hF hX hI ls ?_
      rw [hpo.2.1]
      exact lv_sub hl [3, 4, 5, 2, 1, 0] rfl
  refine lv_aload_n hx hb d_MO_write_0 rfl (lv_at hl 0 rfl) ?_
  refine lv_iload_n hx hb d_MO_write_1 rfl (lv_at hl 1 rfl) ?_
  refine f_put (C := "DutyRulesModel") (T := T_MO) (N := 40) (fs' := mo (va_up mf 37 (.int wi))) (v := .int wi) hx hb (fun w q => hT w (s_MO w q)) t_MO k_MO n_MO hown hK hI g_x (by decide) rfl 37 (by decide) (hT _ w_846) (fun _ q => q) rfl rfl rfl (by rw [mo_len]; decide) (mo_set _) d_MO_write_2 (fun H locs hI => ?_)
  generalize emf_27 : va_up mf 37 (.int wi) = mf_27 at hI
  have v_3 : mf_27 3 = .ref a3 := (congrFun emf_27 3).symm.trans ((va_up_ne _ _ (by decide)).trans v_3)
  have v_4 : mf_27 4 = .ref a4 := (congrFun emf_27 4).symm.trans ((va_up_ne _ _ (by decide)).trans v_4)
  have v_37 : mf_27 37 = .int wi := (congrFun emf_27 37).symm.trans (va_up_self _ _ _)
  generalize eh_28 : fU h x (40, 0, .inr (8, mo mf_27)) = h_28 at hI
  have hX := hX.set (e := .inr (8, mo mf_27)) g_x (by decide); rw [eh_28] at hX
  have hF := hF.set (e := .inr (8, mo mf_27)) g_x (by decide); rw [eh_28] at hF
  have g_a3 : h_28 a3 = some (44, 0, .inl ((G.2.1 0), 2200, .inl (fun i => nI (rr i)))) := (congrFun eh_28 a3).symm.trans (fU_keep g_a3 (f_neR g_a3 g_x (by decide)))
  have g_a4 : h_28 a4 = some (45, 0, .inl ((G.2.1 0), 11, .inl (fun i => nI (rm i)))) := (congrFun eh_28 a4).symm.trans (fU_keep g_a4 (f_neR g_a4 g_x (by decide)))
  have g_x : h_28 x = some (40, 0, .inr (8, mo mf_27)) := (congrFun eh_28 x).symm.trans (fU_self _ _ _)
  have hm1 : ∀ j, j < 37 → mf_27 j = mf j := fun j hj => (congrFun emf_27 j).symm.trans ((va_up_ne _ _ (by omega)).trans (hm1 j hj))
  refine lv_aload_n hx hb d_MO_write_5 rfl (lv_at hl 0 rfl) ?_
  refine lv_iconst (v := (-1)) hx hb d_MO_write_6 (by decide) ?_
  refine f_put (C := "DutyRulesModel") (T := T_MO) (N := 40) (fs' := mo (va_up mf_27 38 (.int (-1)))) (v := .int (-1)) hx hb (fun w q => hT w (s_MO w q)) t_MO k_MO n_MO hown hK hI g_x (by decide) rfl 38 (by decide) (hT _ w_847) (fun _ q => q) rfl rfl rfl (by rw [mo_len]; decide) (mo_set _) d_MO_write_7 (fun H locs hI => ?_)
  generalize emf_29 : va_up mf_27 38 (.int (-1)) = mf_29 at hI
  have v_3 : mf_29 3 = .ref a3 := (congrFun emf_29 3).symm.trans ((va_up_ne _ _ (by decide)).trans v_3)
  have v_4 : mf_29 4 = .ref a4 := (congrFun emf_29 4).symm.trans ((va_up_ne _ _ (by decide)).trans v_4)
  have v_37 : mf_29 37 = .int wi := (congrFun emf_29 37).symm.trans ((va_up_ne _ _ (by decide)).trans v_37)
  have v_38 : mf_29 38 = .int (-1) := (congrFun emf_29 38).symm.trans (va_up_self _ _ _)
  generalize eh_30 : fU h_28 x (40, 0, .inr (8, mo mf_29)) = h_30 at hI
  have hX := hX.set (e := .inr (8, mo mf_29)) g_x (by decide); rw [eh_30] at hX
  have hF := hF.set (e := .inr (8, mo mf_29)) g_x (by decide); rw [eh_30] at hF
  have g_a3 : h_30 a3 = some (44, 0, .inl ((G.2.1 0), 2200, .inl (fun i => nI (rr i)))) := (congrFun eh_30 a3).symm.trans (fU_keep g_a3 (f_neR g_a3 g_x (by decide)))
  have g_a4 : h_30 a4 = some (45, 0, .inl ((G.2.1 0), 11, .inl (fun i => nI (rm i)))) := (congrFun eh_30 a4).symm.trans (fU_keep g_a4 (f_neR g_a4 g_x (by decide)))
  have g_x : h_30 x = some (40, 0, .inr (8, mo mf_29)) := (congrFun eh_30 x).symm.trans (fU_self _ _ _)
  have hm1 : ∀ j, j < 37 → mf_29 j = mf j := fun j hj => (congrFun emf_29 j).symm.trans ((va_up_ne _ _ (by omega)).trans (hm1 j hj))
  refine lv_aload_n hx hb d_MO_write_10 rfl (lv_at hl 0 rfl) ?_
  refine lv_iconst (v := 0) hx hb d_MO_write_11 (by decide) ?_
  refine f_put (C := "DutyRulesModel") (T := T_MO) (N := 40) (fs' := mo (va_up mf_29 39 (.int 0))) (v := .int 0) hx hb (fun w q => hT w (s_MO w q)) t_MO k_MO n_MO hown hK hI g_x (by decide) rfl 39 (by decide) (hT _ w_848) (fun _ q => q) rfl rfl rfl (by rw [mo_len]; decide) (mo_set _) d_MO_write_12 (fun H locs hI => ?_)
  generalize emf_31 : va_up mf_29 39 (.int 0) = mf_31 at hI
  have v_3 : mf_31 3 = .ref a3 := (congrFun emf_31 3).symm.trans ((va_up_ne _ _ (by decide)).trans v_3)
  have v_4 : mf_31 4 = .ref a4 := (congrFun emf_31 4).symm.trans ((va_up_ne _ _ (by decide)).trans v_4)
  have v_37 : mf_31 37 = .int wi := (congrFun emf_31 37).symm.trans ((va_up_ne _ _ (by decide)).trans v_37)
  have v_38 : mf_31 38 = .int (-1) := (congrFun emf_31 38).symm.trans ((va_up_ne _ _ (by decide)).trans v_38)
  have v_39 : mf_31 39 = .int 0 := (congrFun emf_31 39).symm.trans (va_up_self _ _ _)
  generalize eh_32 : fU h_30 x (40, 0, .inr (8, mo mf_31)) = h_32 at hI
  have hX := hX.set (e := .inr (8, mo mf_31)) g_x (by decide); rw [eh_32] at hX
  have hF := hF.set (e := .inr (8, mo mf_31)) g_x (by decide); rw [eh_32] at hF
  have g_a3 : h_32 a3 = some (44, 0, .inl ((G.2.1 0), 2200, .inl (fun i => nI (rr i)))) := (congrFun eh_32 a3).symm.trans (fU_keep g_a3 (f_neR g_a3 g_x (by decide)))
  have g_a4 : h_32 a4 = some (45, 0, .inl ((G.2.1 0), 11, .inl (fun i => nI (rm i)))) := (congrFun eh_32 a4).symm.trans (fU_keep g_a4 (f_neR g_a4 g_x (by decide)))
  have g_x : h_32 x = some (40, 0, .inr (8, mo mf_31)) := (congrFun eh_32 x).symm.trans (fU_self _ _ _)
  have hm1 : ∀ j, j < 37 → mf_31 j = mf j := fun j hj => (congrFun emf_31 j).symm.trans ((va_up_ne _ _ (by omega)).trans (hm1 j hj))
  refine lv_iconst (v := 0) hx hb d_MO_write_15 (by decide) ?_
  refine lv_istore_n (lv' := [(2, .int 0), (0, .ref x), (1, .int wi)]) hx hb d_MO_write_16 rfl hl (by decide) rfl (fun ls hl => ?_)
  refine J17 L.length 0 (by omega) _ mf_31 _ _ g_x g_a3 g_a4 v_3 v_4 v_37 (by rw [List.take_zero]; exact v_38.trans (congrArg Value.int (gtL_0 wi).symm)) (by rw [List.take_zero]; exact v_39) hm1 hF hX hI ls ?_
  exact lv_sub hl [1, 2, 0] rfl
