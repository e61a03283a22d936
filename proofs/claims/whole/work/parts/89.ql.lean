theorem lw_cmp {a L : Nat} (ha : a ≤ 9000) (hL : L ≤ 9000) : (nI L - 9 < nI a ↔ L < a + 9) := by
  by_cases h9 : 9 ≤ L
  · have e : nI L - 9 = nI (L - 9) := pk_sub (a := L) (b := 9) h9
    rw [e, n_lt (by omega) (by omega)]
    omega
  · have hx : ∀ L : Nat, L < 9 → (nI L - 9) < 0 := by decide
    have h1 := Int32.lt_iff_toInt_lt.mp (hx L (by omega))
    have h2 : (0 : Int32) ≤ nI a := (n_le (a := 0) (b := a) (by decide) (by omega)).mpr (Nat.zero_le _)
    have h3 := Int32.le_iff_toInt_le.mp h2
    constructor
    · intro _; omega
    · intro _; exact Int32.lt_iff_toInt_lt.mpr (Int.lt_of_lt_of_le h1 h3)
set_option maxHeartbeats 8000000 in
set_option maxRecDepth 100000 in
/-- the law's loop -/
theorem q_loop {p : Program} {e : Env} {s : State} {m : MethodId} {below : List Frame} {meth : Method} {c : Code} (l : Launch) (G : gG) (h : fH) (b L X M : Nat) (xs : Nat → Int32) (cS : ClassId) (C : gC G p s m #[Value.ref b] meth c (fA h s.heap.size) code 4 "DutyRulesLaw" meth.name) (hfb : fT s cS .int) (hK0 : cst G h b cS L xs) (bL : L ≤ 4608) (hrt : meth.sig.returnType = ret) (hA : ∀ q, fA h s.heap.size q → s.heap.size ≤ q)
    : ∀ (k n : Nat), L ≤ 9 * n + 9 * k → 9 * n ≤ L → ∀ (h1 : fH) (H : Heap) (locs : List Loc) (cs ss : Nat), cs ≤ 50 + 320 * n → ss ≤ 190000 + 11800 * n → LI G h1 X M → fX h s.heap.size h1 → fI G.1 g_cl (fA h s.heap.size) s.heap h1 H locs → ∀ ls : Array Slot, lv_has ls 4 [(0, .ref b), (1, .ref X), (2, .ref M), (3, .int (nI (9 * n)))] → W p l e room_1 s m #[Value.ref b] below meth c H locs cs ss (lw_Z below #[Value.ref b] s) (F0 m 18 ls []) := by
  obtain ⟨hx, hb, hml, hown, hnm, hlk, hT, hG, hZ⟩ := id C
  have hsz : s.heap.size = s.heap.size := rfl
  intro k
  induction k with
  | zero =>
    intro n hk hn h1 H locs cs ss hcs hss hLI hX hI ls hl
    have hKc := hK0.keepX hX
    have g_b := hKc.2.2.2
    have hn5 : n ≤ 512 := by omega
    refine lv_iload_n hx hb d_LA_law_18 rfl (lv_at hl 3 rfl) ?_
    refine lv_aload_n hx hb d_LA_law_19 rfl (lv_at hl 0 rfl) ?_
    refine f_alen (v := nI L) hx hb hI g_b hfb rfl d_LA_law_20 ?_
    refine lv_bipush (v := 9) hx hb d_LA_law_21 (by decide) ?_
    refine lv_isub hx hb d_LA_law_23 ?_
    refine lv_icmp_gt (tgt := 865) hx hb d_LA_law_24 (by decide) (fun c_1 => ?_) (fun c_1 => ?_)
    · skip
      refine lv_iconst (v := 1) hx hb d_LA_law_865 (by decide) ?_
      exact va_forget (fun q hq => hA _ (hI.2.2.2.2.2 q hq)) (W.widen (by omega) (by omega) (lw_ret hx hb hrt hlk d_LA_law_866))
    · skip
      exact absurd ((lw_cmp (by omega) (by omega)).mpr (by omega)) c_1
  | succ k ih =>
    intro n hk hn h1 H locs cs ss hcs hss hLI hX hI ls hl
    have hKc := hK0.keepX hX
    have g_b := hKc.2.2.2
    have hn5 : n ≤ 512 := by omega
    obtain ⟨u0, hu0⟩ : ∃ z, xs (9 * n) = z := ⟨_, rfl⟩
    refine lv_iload_n hx hb d_LA_law_18 rfl (lv_at hl 3 rfl) ?_
    refine lv_aload_n hx hb d_LA_law_19 rfl (lv_at hl 0 rfl) ?_
    refine f_alen (v := nI L) hx hb hI g_b hfb rfl d_LA_law_20 ?_
    refine lv_bipush (v := 9) hx hb d_LA_law_21 (by decide) ?_
    refine lv_isub hx hb d_LA_law_23 ?_
    refine lv_icmp_gt (tgt := 865) hx hb d_LA_law_24 (by decide) (fun c_1 => ?_) (fun c_1 => ?_)
    · skip
      refine lv_iconst (v := 1) hx hb d_LA_law_865 (by decide) ?_
      exact va_forget (fun q hq => hA _ (hI.2.2.2.2.2 q hq)) (W.widen (by omega) (by omega) (lw_ret hx hb hrt hlk d_LA_law_866))
    · skip
      have hn9 : 9 * n + 9 ≤ L := Nat.le_of_not_lt (fun q => c_1 ((lw_cmp (by omega) (by omega)).mpr q))
      have KK : ∀ (h2 : fH) (H : Heap) (locs : List Loc) (cs ss : Nat), cs ≤ 50 + 320 * (n + 1) → ss ≤ 190000 + 11800 * (n + 1) → LI G h2 X M → fX h s.heap.size h2 → fI G.1 g_cl (fA h s.heap.size) s.heap h2 H locs → ∀ ls : Array Slot, lv_has ls 4 [(0, .ref b), (1, .ref X), (2, .ref M), (3, .int (nI (9 * n)))] → W p l e room_1 s m #[Value.ref b] below meth c H locs cs ss (lw_Z below #[Value.ref b] s) (F0 m 859 ls []) := by
        intro h2 H locs cs ss hcs hss hLI hX hI ls hl
        refine lv_iinc (v := nI (9 * (n + 1))) (lv' := [(3, .int (nI (9 * (n + 1)))), (0, .ref b), (1, .ref X), (2, .ref M)]) hx hb d_LA_law_859 hl (k := 3) rfl (nI_add (9 * n) 9) (by decide) rfl (fun ls hl => ?_)
        refine lv_goto (tgt := 18) hx hb d_LA_law_862 (by decide) ?_
        exact ih (n + 1) (by omega) (by omega) h2 H locs cs ss hcs hss hLI hX hI ls (lv_sub hl [1, 2, 3, 0] rfl)
      refine lv_aload_n hx hb d_LA_law_27 rfl (lv_at hl 0 rfl) ?_
      refine lv_iload_n hx hb d_LA_law_28 rfl (lv_at hl 3 rfl) ?_
      refine f_ialdn (k := (9 * n)) (v := u0) hx hb hI g_b hfb (by omega) (by omega) hu0 d_LA_law_29 ?_
      refine lv_bipush (v := 15) hx hb d_LA_law_30 (by decide) ?_
      refine lv_iand hx hb d_LA_law_32 ?_
      rcases (show (u0 &&& 15).toInt = 0 ∨ (u0 &&& 15).toInt = 1 ∨ (u0 &&& 15).toInt = 2 ∨ (u0 &&& 15).toInt = 3 ∨ (u0 &&& 15).toInt = 4 ∨ (u0 &&& 15).toInt = 5 ∨ (u0 &&& 15).toInt = 6 ∨ (u0 &&& 15).toInt = 7 ∨ (u0 &&& 15).toInt = 8 ∨ (u0 &&& 15).toInt = 9 ∨ (u0 &&& 15).toInt = 10 ∨ (u0 &&& 15).toInt = 11 ∨ (u0 &&& 15).toInt = 12 ∨ (u0 &&& 15).toInt = 13 ∨ ((u0 &&& 15).toInt < 0 ∨ 13 < (u0 &&& 15).toInt) by omega) with e_2 | e_2 | e_2 | e_2 | e_2 | e_2 | e_2 | e_2 | e_2 | e_2 | e_2 | e_2 | e_2 | e_2 | e_2
      · refine lv_tableIn (off := 71) (tgt := 104) hx hb d_LA_law_33 (by rw [e_2]; decide) (by rw [e_2]; decide) (by rw [e_2]; decide) (by decide) ?_
        exact q_unit l G h b L X M n xs cS C hfb hK0 bL hn9 KK h1 H locs cs ss hcs hss hLI hX hI ls hl
      · refine lv_tableIn (off := 94) (tgt := 127) hx hb d_LA_law_33 (by rw [e_2]; decide) (by rw [e_2]; decide) (by rw [e_2]; decide) (by decide) ?_
        exact q_read l G h b L X M n xs cS C hfb hK0 bL hn9 KK h1 H locs cs ss hcs hss hLI hX hI ls hl
      · refine lv_tableIn (off := 107) (tgt := 140) hx hb d_LA_law_33 (by rw [e_2]; decide) (by rw [e_2]; decide) (by rw [e_2]; decide) (by decide) ?_
        exact q_edition l G h b L X M n xs cS C hfb hK0 bL hn9 KK h1 H locs cs ss hcs hss hLI hX hI ls hl
      · refine lv_tableIn (off := 160) (tgt := 193) hx hb d_LA_law_33 (by rw [e_2]; decide) (by rw [e_2]; decide) (by rw [e_2]; decide) (by decide) ?_
        exact q_fact l G h b L X M n xs cS C hfb hK0 bL hn9 KK h1 H locs cs ss hcs hss hLI hX hI ls hl
      · refine lv_tableIn (off := 319) (tgt := 352) hx hb d_LA_law_33 (by rw [e_2]; decide) (by rw [e_2]; decide) (by rw [e_2]; decide) (by decide) ?_
        exact q_told l G h b L X M n xs cS C hfb hK0 bL hn9 KK h1 H locs cs ss hcs hss hLI hX hI ls hl
      · refine lv_tableIn (off := 392) (tgt := 425) hx hb d_LA_law_33 (by rw [e_2]; decide) (by rw [e_2]; decide) (by rw [e_2]; decide) (by decide) ?_
        exact q_duty l G h b L X M n xs cS C hfb hK0 bL hn9 KK h1 H locs cs ss hcs hss hLI hX hI ls hl
      · refine lv_tableIn (off := 508) (tgt := 541) hx hb d_LA_law_33 (by rw [e_2]; decide) (by rw [e_2]; decide) (by rw [e_2]; decide) (by decide) ?_
        exact q_open l G h b L X M n xs cS C hfb hK0 bL hn9 KK h1 H locs cs ss hcs hss hLI hX hI ls hl
      · refine lv_tableIn (off := 531) (tgt := 564) hx hb d_LA_law_33 (by rw [e_2]; decide) (by rw [e_2]; decide) (by rw [e_2]; decide) (by decide) ?_
        exact q_step l G h b L X M n xs cS C hfb hK0 bL hn9 KK h1 H locs cs ss hcs hss hLI hX hI ls hl
      · refine lv_tableIn (off := 574) (tgt := 607) hx hb d_LA_law_33 (by rw [e_2]; decide) (by rw [e_2]; decide) (by rw [e_2]; decide) (by decide) ?_
        exact q_allowed l G h b L X M n xs cS C hfb hK0 bL hn9 KK h1 H locs cs ss hcs hss hLI hX hI ls hl
      · refine lv_tableIn (off := 608) (tgt := 641) hx hb d_LA_law_33 (by rw [e_2]; decide) (by rw [e_2]; decide) (by rw [e_2]; decide) (by decide) ?_
        exact q_returned l G h b L X M n xs cS C hfb hK0 bL hn9 KK h1 H locs cs ss hcs hss hLI hX hI ls hl
      · refine lv_tableIn (off := 631) (tgt := 664) hx hb d_LA_law_33 (by rw [e_2]; decide) (by rw [e_2]; decide) (by rw [e_2]; decide) (by decide) ?_
        exact q_row l G h b L X M n xs cS C hfb hK0 bL hn9 KK h1 H locs cs ss hcs hss hLI hX hI ls hl
      · refine lv_tableIn (off := 665) (tgt := 698) hx hb d_LA_law_33 (by rw [e_2]; decide) (by rw [e_2]; decide) (by rw [e_2]; decide) (by decide) ?_
        exact q_difference l G h b L X M n xs cS C hfb hK0 bL hn9 KK h1 H locs cs ss hcs hss hLI hX hI ls hl
      · refine lv_tableIn (off := 729) (tgt := 762) hx hb d_LA_law_33 (by rw [e_2]; decide) (by rw [e_2]; decide) (by rw [e_2]; decide) (by decide) ?_
        exact q_write l G h b L X M n xs cS C hfb hK0 bL hn9 KK h1 H locs cs ss hcs hss hLI hX hI ls hl
      · refine lv_tableIn (off := 752) (tgt := 785) hx hb d_LA_law_33 (by rw [e_2]; decide) (by rw [e_2]; decide) (by rw [e_2]; decide) (by decide) ?_
        exact q_interest l G h b L X M n xs cS C hfb hK0 bL hn9 KK h1 H locs cs ss hcs hss hLI hX hI ls hl
      · refine lv_tableOut (tgt := 859) hx hb d_LA_law_33 e_2 (by decide) ?_
        exact KK h1 H locs cs ss (by omega) (by omega) hLI hX hI ls hl
