set_option maxHeartbeats 8000000 in
set_option maxRecDepth 100000 in
/-- the law: edition -/
theorem q_edition {p : Program} {e : Env} {s : State} {m : MethodId} {below : List Frame} {meth : Method} {c : Code} (l : Launch) (G : gG) (h : fH) (b L X M n : Nat) (xs : Nat → Int32) (cS : ClassId) (C : gC G p s m #[Value.ref b] meth c (fA h s.heap.size) code 4 "DutyRulesLaw" meth.name) (hfb : fT s cS .int) (hK0 : cst G h b cS L xs) (bL : L ≤ 4608) (hn : 9 * n + 9 ≤ L)
    (K : ∀ (h2 : fH) (H : Heap) (locs : List Loc) (cs ss : Nat), cs ≤ 50 + 320 * (n + 1) → ss ≤ 190000 + 11800 * (n + 1) → LI G h2 X M → fX h s.heap.size h2 → fI G.1 g_cl (fA h s.heap.size) s.heap h2 H locs → ∀ ls : Array Slot, lv_has ls 4 [(0, .ref b), (1, .ref X), (2, .ref M), (3, .int (nI (9 * n)))] → W p l e room_1 s m #[Value.ref b] below meth c H locs cs ss (lw_Z below #[Value.ref b] s) (F0 m 859 ls []))
    : ∀ (h1 : fH) (H : Heap) (locs : List Loc) (cs ss : Nat), cs ≤ 50 + 320 * n → ss ≤ 190000 + 11800 * n → LI G h1 X M → fX h s.heap.size h1 → fI G.1 g_cl (fA h s.heap.size) s.heap h1 H locs → ∀ ls : Array Slot, lv_has ls 4 [(0, .ref b), (1, .ref X), (2, .ref M), (3, .int (nI (9 * n)))] → W p l e room_1 s m #[Value.ref b] below meth c H locs cs ss (lw_Z below #[Value.ref b] s) (F0 m 140 ls []) := by
  intro h1 H locs cs ss hcs hss hLI hX hI ls hl
  obtain ⟨hx, hb, hml, hown, hnm, hlk, hT, hG, hZ⟩ := id C
  have hK := hG.1
  have hsz : s.heap.size = s.heap.size := rfl
  obtain ⟨tn, tx, ne, ef, rr, rm, nf, la, fl, fk, fd, fw, fv, sL, sR, Ls, th, du, wr, rn, rl, rD, rM, L9, hr, hc, hp⟩ := hLI
  obtain ⟨mf, rg, g_M, hTx, hRd, hEm, hFf, v_13, hS0, hSh, hRt⟩ := id hr
  obtain ⟨T, E, F, D, I, R, Wr, wa, nr, lr, mm, A, fa, gq, nn, pr, pm, chs, lt, rs, hv, d, r1, r2, o1, g_X, ⟨hB, bmm⟩, hEd, hcR, hC, ⟨hD, hsh⟩, hIn, ⟨hS, hr12⟩, ⟨hCh, hnr⟩, hlr, hwr⟩ := id hc
  obtain ⟨hrep, hrm, bla, hmon, hz0⟩ := id hp
  have hKc := hK0.keepX hX
  have g_b := hKc.2.2.2
  have hn5 : n ≤ 511 := by omega
  have hoks := ed_ok hEm
  have hbd := rk_all hEm hFf
  obtain ⟨u1, hu1⟩ : ∃ z, xs (9 * n + 1) = z := ⟨_, rfl⟩
  obtain ⟨u2, hu2⟩ : ∃ z, xs (9 * n + 2) = z := ⟨_, rfl⟩
  obtain ⟨d1, hd1⟩ : ∃ z, (u1.toInt64 <<< ((32 : Int32).toInt64 &&& 63)) ||| (u2.toInt64 &&& 4294967295) = z := ⟨_, rfl⟩
  by_cases hbad : d1 < 0 ∨ 100000 < d1
  · skip
    refine lv_aload_n hx hb d_LA_law_140 rfl (lv_at hl 1 rfl) ?_
    refine lv_aload_n hx hb d_LA_law_141 rfl (lv_at hl 0 rfl) ?_
    refine lv_iload_n hx hb d_LA_law_142 rfl (lv_at hl 3 rfl) ?_
    refine lv_iconst (v := 1) hx hb d_LA_law_143 (by decide) ?_
    refine lv_iadd hx hb d_LA_law_144 ?_
    refine f_asi (nI_add (9 * n) 1) ?_
    refine f_ialdn (k := ((9 * n) + 1)) (v := u1) hx hb hI g_b hfb (by omega) (by omega) hu1 d_LA_law_145 ?_
    refine lv_i2l hx hb d_LA_law_146 rfl ?_
    refine lv_bipush (v := 32) hx hb d_LA_law_147 (by decide) ?_
    refine lv_lshl hx hb d_LA_law_149 rfl ?_
    refine lv_aload_n hx hb d_LA_law_150 rfl (lv_at hl 0 rfl) ?_
    refine lv_iload_n hx hb d_LA_law_151 rfl (lv_at hl 3 rfl) ?_
    refine lv_iconst (v := 2) hx hb d_LA_law_152 (by decide) ?_
    refine lv_iadd hx hb d_LA_law_153 ?_
    refine f_asi (nI_add (9 * n) 2) ?_
    refine f_ialdn (k := ((9 * n) + 2)) (v := u2) hx hb hI g_b hfb (by omega) (by omega) hu2 d_LA_law_154 ?_
    refine lv_i2l hx hb d_LA_law_155 rfl ?_
    refine lv_ldc2 (v := 4294967295) hx hb hown (hT _ w_1095) d_LA_law_156 ?_
    refine lv_land hx hb d_LA_law_159 ?_
    refine lv_lor hx hb d_LA_law_160 ?_
    refine f_asl hd1 ?_
    refine f_calli hI (f_runV C hI (c_DR_edition_no l G h1 _ X T E F D I R Wr wa nr lr g_X d1 hbad) gm_DR_edition w_543 w_544 w_542 g_X rfl rfl rfl hl.1 rfl (Nat.le_of_ble_eq_true rfl) ⟨Nat.le_of_ble_eq_true rfl, Nat.le_of_ble_eq_true rfl⟩ d_LA_law_161 ⟨by show _ ≤ 600000; (try dsimp only); omega, by show _ ≤ 7302250; (try dsimp only); omega⟩) (fun r_1 h8 H9 locs hp9 hX9 hz9 hI => ?_)
    obtain ⟨rfl, e9⟩ := hp9
    rw [e9] at hI
    clear hX9 e9
    refine lv_aload_n hx hb d_LA_law_164 rfl (lv_at hl 2 rfl) ?_
    refine lv_aload_n hx hb d_LA_law_165 rfl (lv_at hl 0 rfl) ?_
    refine lv_iload_n hx hb d_LA_law_166 rfl (lv_at hl 3 rfl) ?_
    refine lv_iconst (v := 1) hx hb d_LA_law_167 (by decide) ?_
    refine lv_iadd hx hb d_LA_law_168 ?_
    refine f_asi (nI_add (9 * n) 1) ?_
    refine f_ialdn (k := ((9 * n) + 1)) (v := u1) hx hb hI g_b hfb (by omega) (by omega) hu1 d_LA_law_169 ?_
    refine lv_i2l hx hb d_LA_law_170 rfl ?_
    refine lv_bipush (v := 32) hx hb d_LA_law_171 (by decide) ?_
    refine lv_lshl hx hb d_LA_law_173 rfl ?_
    refine lv_aload_n hx hb d_LA_law_174 rfl (lv_at hl 0 rfl) ?_
    refine lv_iload_n hx hb d_LA_law_175 rfl (lv_at hl 3 rfl) ?_
    refine lv_iconst (v := 2) hx hb d_LA_law_176 (by decide) ?_
    refine lv_iadd hx hb d_LA_law_177 ?_
    refine f_asi (nI_add (9 * n) 2) ?_
    refine f_ialdn (k := ((9 * n) + 2)) (v := u2) hx hb hI g_b hfb (by omega) (by omega) hu2 d_LA_law_178 ?_
    refine lv_i2l hx hb d_LA_law_179 rfl ?_
    refine lv_ldc2 (v := 4294967295) hx hb hown (hT _ w_1095) d_LA_law_180 ?_
    refine lv_land hx hb d_LA_law_183 ?_
    refine lv_lor hx hb d_LA_law_184 ?_
    refine f_asl hd1 ?_
    refine f_calli hI (f_runV C hI (c_MO_edition_no l G h1 _ M d1 mf g_M ne ef rr rm hEm hbad) gm_MO_edition w_971 w_972 w_970 g_M rfl rfl rfl hl.1 rfl (Nat.le_of_ble_eq_true rfl) ⟨Nat.le_of_ble_eq_true rfl, Nat.le_of_ble_eq_true rfl⟩ d_LA_law_185 ⟨by show _ ≤ 600000; (try dsimp only); omega, by show _ ≤ 7302250; (try dsimp only); omega⟩) (fun r_2 h8 H9 locs hp9 hX9 hz9 hI => ?_)
    obtain ⟨rfl, e9⟩ := hp9
    rw [e9] at hI
    clear hX9 e9
    refine lv_icmp_eq (tgt := 859) hx hb d_LA_law_188 (by decide) (fun c_3 => ?_) (fun c_3 => absurd rfl c_3)
    refine K _ _ _ _ _ (by (try dsimp only); omega) (by (try dsimp only); omega) ⟨tn, tx, ne, ef, rr, rm, nf, la, fl, fk, fd, fw, fv, sL, sR, Ls, th, du, wr, rn, rl, rD, rM, L9, hr, hc, hp⟩ hX hI ls ?_
    exact lv_sub hl [0, 1, 2, 3] rfl
  · obtain ⟨dd, bd, hdd⟩ := day_of hbad
    subst hdd
    have bne : ne ≤ 10 := by obtain ⟨_, _, _, _, _, q, _⟩ := id hEm; exact q
    by_cases hful : ne = 10
    · skip
      refine lv_aload_n hx hb d_LA_law_140 rfl (lv_at hl 1 rfl) ?_
      refine lv_aload_n hx hb d_LA_law_141 rfl (lv_at hl 0 rfl) ?_
      refine lv_iload_n hx hb d_LA_law_142 rfl (lv_at hl 3 rfl) ?_
      refine lv_iconst (v := 1) hx hb d_LA_law_143 (by decide) ?_
      refine lv_iadd hx hb d_LA_law_144 ?_
      refine f_asi (nI_add (9 * n) 1) ?_
      refine f_ialdn (k := ((9 * n) + 1)) (v := u1) hx hb hI g_b hfb (by omega) (by omega) hu1 d_LA_law_145 ?_
      refine lv_i2l hx hb d_LA_law_146 rfl ?_
      refine lv_bipush (v := 32) hx hb d_LA_law_147 (by decide) ?_
      refine lv_lshl hx hb d_LA_law_149 rfl ?_
      refine lv_aload_n hx hb d_LA_law_150 rfl (lv_at hl 0 rfl) ?_
      refine lv_iload_n hx hb d_LA_law_151 rfl (lv_at hl 3 rfl) ?_
      refine lv_iconst (v := 2) hx hb d_LA_law_152 (by decide) ?_
      refine lv_iadd hx hb d_LA_law_153 ?_
      refine f_asi (nI_add (9 * n) 2) ?_
      refine f_ialdn (k := ((9 * n) + 2)) (v := u2) hx hb hI g_b hfb (by omega) (by omega) hu2 d_LA_law_154 ?_
      refine lv_i2l hx hb d_LA_law_155 rfl ?_
      refine lv_ldc2 (v := 4294967295) hx hb hown (hT _ w_1095) d_LA_law_156 ?_
      refine lv_land hx hb d_LA_law_159 ?_
      refine lv_lor hx hb d_LA_law_160 ?_
      refine f_asl hd1 ?_
      refine f_calli hI (f_runV C hI (c_DR_edition_full l G h1 _ X T E F D I R Wr wa nr lr g_X ne ef rr rm hEd dd hcR bd hful) gm_DR_edition w_543 w_544 w_542 g_X rfl rfl rfl hl.1 rfl (Nat.le_of_ble_eq_true rfl) ⟨Nat.le_of_ble_eq_true rfl, Nat.le_of_ble_eq_true rfl⟩ d_LA_law_161 ⟨by show _ ≤ 600000; (try dsimp only); omega, by show _ ≤ 7302250; (try dsimp only); omega⟩) (fun r_4 h8 H9 locs hp9 hX9 hz9 hI => ?_)
      obtain ⟨rfl, e9⟩ := hp9
      rw [e9] at hI
      clear hX9 e9
      refine lv_aload_n hx hb d_LA_law_164 rfl (lv_at hl 2 rfl) ?_
      refine lv_aload_n hx hb d_LA_law_165 rfl (lv_at hl 0 rfl) ?_
      refine lv_iload_n hx hb d_LA_law_166 rfl (lv_at hl 3 rfl) ?_
      refine lv_iconst (v := 1) hx hb d_LA_law_167 (by decide) ?_
      refine lv_iadd hx hb d_LA_law_168 ?_
      refine f_asi (nI_add (9 * n) 1) ?_
      refine f_ialdn (k := ((9 * n) + 1)) (v := u1) hx hb hI g_b hfb (by omega) (by omega) hu1 d_LA_law_169 ?_
      refine lv_i2l hx hb d_LA_law_170 rfl ?_
      refine lv_bipush (v := 32) hx hb d_LA_law_171 (by decide) ?_
      refine lv_lshl hx hb d_LA_law_173 rfl ?_
      refine lv_aload_n hx hb d_LA_law_174 rfl (lv_at hl 0 rfl) ?_
      refine lv_iload_n hx hb d_LA_law_175 rfl (lv_at hl 3 rfl) ?_
      refine lv_iconst (v := 2) hx hb d_LA_law_176 (by decide) ?_
      refine lv_iadd hx hb d_LA_law_177 ?_
      refine f_asi (nI_add (9 * n) 2) ?_
      refine f_ialdn (k := ((9 * n) + 2)) (v := u2) hx hb hI g_b hfb (by omega) (by omega) hu2 d_LA_law_178 ?_
      refine lv_i2l hx hb d_LA_law_179 rfl ?_
      refine lv_ldc2 (v := 4294967295) hx hb hown (hT _ w_1095) d_LA_law_180 ?_
      refine lv_land hx hb d_LA_law_183 ?_
      refine lv_lor hx hb d_LA_law_184 ?_
      refine f_asl hd1 ?_
      refine f_calli hI (f_runV C hI (c_MO_edition_full l G h1 _ M dd mf g_M ne ef rr rm hEm bd hful) gm_MO_edition w_971 w_972 w_970 g_M rfl rfl rfl hl.1 rfl (Nat.le_of_ble_eq_true rfl) ⟨Nat.le_of_ble_eq_true rfl, Nat.le_of_ble_eq_true rfl⟩ d_LA_law_185 ⟨by show _ ≤ 600000; (try dsimp only); omega, by show _ ≤ 7302250; (try dsimp only); omega⟩) (fun r_5 h8 H9 locs hp9 hX9 hz9 hI => ?_)
      obtain ⟨rfl, e9⟩ := hp9
      rw [e9] at hI
      clear hX9 e9
      refine lv_icmp_eq (tgt := 859) hx hb d_LA_law_188 (by decide) (fun c_6 => ?_) (fun c_6 => absurd rfl c_6)
      refine K _ _ _ _ _ (by (try dsimp only); omega) (by (try dsimp only); omega) ⟨tn, tx, ne, ef, rr, rm, nf, la, fl, fk, fd, fw, fv, sL, sR, Ls, th, du, wr, rn, rl, rD, rM, L9, hr, hc, hp⟩ hX hI ls ?_
      exact lv_sub hl [0, 1, 2, 3] rfl
    · have bne2 : ne < 10 := by omega
      refine lv_aload_n hx hb d_LA_law_140 rfl (lv_at hl 1 rfl) ?_
      refine lv_aload_n hx hb d_LA_law_141 rfl (lv_at hl 0 rfl) ?_
      refine lv_iload_n hx hb d_LA_law_142 rfl (lv_at hl 3 rfl) ?_
      refine lv_iconst (v := 1) hx hb d_LA_law_143 (by decide) ?_
      refine lv_iadd hx hb d_LA_law_144 ?_
      refine f_asi (nI_add (9 * n) 1) ?_
      refine f_ialdn (k := ((9 * n) + 1)) (v := u1) hx hb hI g_b hfb (by omega) (by omega) hu1 d_LA_law_145 ?_
      refine lv_i2l hx hb d_LA_law_146 rfl ?_
      refine lv_bipush (v := 32) hx hb d_LA_law_147 (by decide) ?_
      refine lv_lshl hx hb d_LA_law_149 rfl ?_
      refine lv_aload_n hx hb d_LA_law_150 rfl (lv_at hl 0 rfl) ?_
      refine lv_iload_n hx hb d_LA_law_151 rfl (lv_at hl 3 rfl) ?_
      refine lv_iconst (v := 2) hx hb d_LA_law_152 (by decide) ?_
      refine lv_iadd hx hb d_LA_law_153 ?_
      refine f_asi (nI_add (9 * n) 2) ?_
      refine f_ialdn (k := ((9 * n) + 2)) (v := u2) hx hb hI g_b hfb (by omega) (by omega) hu2 d_LA_law_154 ?_
      refine lv_i2l hx hb d_LA_law_155 rfl ?_
      refine lv_ldc2 (v := 4294967295) hx hb hown (hT _ w_1095) d_LA_law_156 ?_
      refine lv_land hx hb d_LA_law_159 ?_
      refine lv_lor hx hb d_LA_law_160 ?_
      refine f_asl hd1 ?_
      have hzA := hI.2.2.2.1
      refine f_calli hI (f_runV C hI (c_DR_edition_ok l G h1 _ X T E F D I R Wr wa nr lr g_X ne ef rr rm hEd dd hcR bd bne2) gm_DR_edition w_543 w_544 w_542 g_X rfl rfl rfl hl.1 rfl (Nat.le_of_ble_eq_true rfl) ⟨Nat.le_of_ble_eq_true rfl, Nat.le_of_ble_eq_true rfl⟩ d_LA_law_161 ⟨by show _ ≤ 600000; (try dsimp only); omega, by show _ ≤ 7302250; (try dsimp only); omega⟩) (fun r_7 h9 H9 locs hp9 hX9 hz9 hI => ?_)
      obtain ⟨rfl, hEd9, hF9⟩ := hp9
      have hX := fX.tr (Nat.le_trans (Nat.le_of_eq hsz.symm) hzA) hX hX9
      have hFc : fF (inR [4, 5, 6]) h1 h9 := hF9.mono (fun r9 o9 z => (by simp only [inR, inD, inXD, inRt, List.mem_cons, List.not_mem_nil, or_false] at z ⊢; omega : inR [4, 5, 6] r9 o9))
      have hr := hr.keep hFc (by decide)
      obtain ⟨mf, rg, g_M, hTx, hRd, hEm, hFf, v_13, hS0, hSh, hRt⟩ := id hr
      have hKc := hK0.keepX hX
      have g_b := hKc.2.2.2
      have hS8 := hS.keepF hFc (nr_1 hr12 (by decide)) (nr_2 hr12 (by decide))
      have hc9 : cAll G h9 X tn tx (ne + 1) (va_up ef ne dd) (cp rr ne 200) (va_up rm ne (rm 10)) nf la fl fk fd fw fv sL sR Ls th du wr rn rl rD rM L9 := ⟨T, E, F, D, I, R, Wr, wa, nr, lr, mm, A, fa, gq, nn, pr, pm, chs, lt, rs, hv, d, r1, r2, o1, hFc _ _ _ _ g_X (by decide), ⟨hB.keepF hFc (by decide) (by decide), bmm⟩, hEd9, cR_cp (hcR.keepF hFc (by decide) (by decide) (by decide)) (by decide) (by omega), hC.keepF hFc (by decide) (by decide) (by decide), ⟨hD.keepF hFc (fun r9 q1 q2 q => by simp only [inR, List.mem_cons, List.not_mem_nil, or_false] at q; omega), hsh⟩, hIn.keepG hFc (fun r9 q1 q2 q => by simp only [inR, List.mem_cons, List.not_mem_nil, or_false] at q; omega), ⟨hS8, hr12⟩, ⟨hCh.keepF hFc (fun r9 o9 q1 q2 q => by simp only [inR, List.mem_cons, List.not_mem_nil, or_false] at q; omega), hnr⟩, hlr, hwr⟩
      refine lv_aload_n hx hb d_LA_law_164 rfl (lv_at hl 2 rfl) ?_
      refine lv_aload_n hx hb d_LA_law_165 rfl (lv_at hl 0 rfl) ?_
      refine lv_iload_n hx hb d_LA_law_166 rfl (lv_at hl 3 rfl) ?_
      refine lv_iconst (v := 1) hx hb d_LA_law_167 (by decide) ?_
      refine lv_iadd hx hb d_LA_law_168 ?_
      refine f_asi (nI_add (9 * n) 1) ?_
      refine f_ialdn (k := ((9 * n) + 1)) (v := u1) hx hb hI g_b hfb (by omega) (by omega) hu1 d_LA_law_169 ?_
      refine lv_i2l hx hb d_LA_law_170 rfl ?_
      refine lv_bipush (v := 32) hx hb d_LA_law_171 (by decide) ?_
      refine lv_lshl hx hb d_LA_law_173 rfl ?_
      refine lv_aload_n hx hb d_LA_law_174 rfl (lv_at hl 0 rfl) ?_
      refine lv_iload_n hx hb d_LA_law_175 rfl (lv_at hl 3 rfl) ?_
      refine lv_iconst (v := 2) hx hb d_LA_law_176 (by decide) ?_
      refine lv_iadd hx hb d_LA_law_177 ?_
      refine f_asi (nI_add (9 * n) 2) ?_
      refine f_ialdn (k := ((9 * n) + 2)) (v := u2) hx hb hI g_b hfb (by omega) (by omega) hu2 d_LA_law_178 ?_
      refine lv_i2l hx hb d_LA_law_179 rfl ?_
      refine lv_ldc2 (v := 4294967295) hx hb hown (hT _ w_1095) d_LA_law_180 ?_
      refine lv_land hx hb d_LA_law_183 ?_
      refine lv_lor hx hb d_LA_law_184 ?_
      refine f_asl hd1 ?_
      have hzA := hI.2.2.2.1
      refine f_calli hI (f_runV C hI (c_MO_edition_ok l G h9 _ M dd mf g_M ne ef rr rm hEm bd bne2) gm_MO_edition w_971 w_972 w_970 g_M rfl rfl rfl hl.1 rfl (Nat.le_of_ble_eq_true rfl) ⟨Nat.le_of_ble_eq_true rfl, Nat.le_of_ble_eq_true rfl⟩ d_LA_law_185 ⟨by show _ ≤ 600000; (try dsimp only); omega, by show _ ≤ 7302250; (try dsimp only); omega⟩) (fun r_8 h9 H9 locs hp9 hX9 hz9 hI => ?_)
      obtain ⟨rfl, mf2, g_M, hm9, hEm9, hF9⟩ := hp9
      have hX := fX.tr (Nat.le_trans (Nat.le_of_eq hsz.symm) hzA) hX hX9
      have hr : rAll G h9 M tn tx (ne + 1) (va_up ef ne dd) (cp rr ne 200) (va_up rm ne (rm 10)) nf la fl fk fd fw fv sL sR Ls th du wr rn rl rD rM := ⟨mf2, rg, g_M, hTx.keep (fun j q1 q2 => hm9 j (by omega)) hF9 (by decide), hRd.keep (fun j q1 q2 => hm9 j (by omega)) hF9 (by decide), hEm9, hFf.keep (fun j q1 q2 => hm9 j (by omega)) hF9 (by decide), (hm9 13 (by omega)).trans v_13, hS0.keep (fun j q1 q2 => hm9 j (by omega)) hF9 (by decide), hSh.keep (fun j q1 q2 => hm9 j (by omega)) hF9 (by decide), hRt.keep (fun j q1 q2 => hm9 j (by omega)) hF9 (by decide)⟩
      have hc9 := hc9.keep hF9 (by decide)
      have hp : pAll (va_up ef ne dd) (cp rr ne 200) (va_up rm ne (rm 10)) nf la fl fk fd th wr L9 := ⟨rep5_cp bne2 hrep, by rw [va_up_ne _ _ (by omega)]; exact hrm, bla, hmon, hz0⟩
      refine lv_icmp_eq (tgt := 859) hx hb d_LA_law_188 (by decide) (fun c_9 => ?_) (fun c_9 => absurd rfl c_9)
      refine K _ _ _ _ _ (by (try dsimp only); omega) (by (try dsimp only); omega) ⟨tn, tx, (ne + 1), (va_up ef ne dd), (cp rr ne 200), (va_up rm ne (rm 10)), nf, la, fl, fk, fd, fw, fv, sL, sR, Ls, th, du, wr, rn, rl, rD, rM, L9, hr, hc9, hp⟩ hX hI ls ?_
      exact lv_sub hl [0, 1, 2, 3] rfl
set_option maxHeartbeats 8000000 in
set_option maxRecDepth 100000 in
/-- the law: told -/
theorem q_told {p : Program} {e : Env} {s : State} {m : MethodId} {below : List Frame} {meth : Method} {c : Code} (l : Launch) (G : gG) (h : fH) (b L X M n : Nat) (xs : Nat → Int32) (cS : ClassId) (C : gC G p s m #[Value.ref b] meth c (fA h s.heap.size) code 4 "DutyRulesLaw" meth.name) (hfb : fT s cS .int) (hK0 : cst G h b cS L xs) (bL : L ≤ 4608) (hn : 9 * n + 9 ≤ L)
    (K : ∀ (h2 : fH) (H : Heap) (locs : List Loc) (cs ss : Nat), cs ≤ 50 + 320 * (n + 1) → ss ≤ 190000 + 11800 * (n + 1) → LI G h2 X M → fX h s.heap.size h2 → fI G.1 g_cl (fA h s.heap.size) s.heap h2 H locs → ∀ ls : Array Slot, lv_has ls 4 [(0, .ref b), (1, .ref X), (2, .ref M), (3, .int (nI (9 * n)))] → W p l e room_1 s m #[Value.ref b] below meth c H locs cs ss (lw_Z below #[Value.ref b] s) (F0 m 859 ls []))
    : ∀ (h1 : fH) (H : Heap) (locs : List Loc) (cs ss : Nat), cs ≤ 50 + 320 * n → ss ≤ 190000 + 11800 * n → LI G h1 X M → fX h s.heap.size h1 → fI G.1 g_cl (fA h s.heap.size) s.heap h1 H locs → ∀ ls : Array Slot, lv_has ls 4 [(0, .ref b), (1, .ref X), (2, .ref M), (3, .int (nI (9 * n)))] → W p l e room_1 s m #[Value.ref b] below meth c H locs cs ss (lw_Z below #[Value.ref b] s) (F0 m 352 ls []) := by
  intro h1 H locs cs ss hcs hss hLI hX hI ls hl
  obtain ⟨hx, hb, hml, hown, hnm, hlk, hT, hG, hZ⟩ := id C
  have hK := hG.1
  have hsz : s.heap.size = s.heap.size := rfl
  obtain ⟨tn, tx, ne, ef, rr, rm, nf, la, fl, fk, fd, fw, fv, sL, sR, Ls, th, du, wr, rn, rl, rD, rM, L9, hr, hc, hp⟩ := hLI
  obtain ⟨mf, rg, g_M, hTx, hRd, hEm, hFf, v_13, hS0, hSh, hRt⟩ := id hr
  obtain ⟨T, E, F, D, I, R, Wr, wa, nr, lr, mm, A, fa, gq, nn, pr, pm, chs, lt, rs, hv, d, r1, r2, o1, g_X, ⟨hB, bmm⟩, hEd, hcR, hC, ⟨hD, hsh⟩, hIn, ⟨hS, hr12⟩, ⟨hCh, hnr⟩, hlr, hwr⟩ := id hc
  obtain ⟨hrep, hrm, bla, hmon, hz0⟩ := id hp
  have hKc := hK0.keepX hX
  have g_b := hKc.2.2.2
  have hn5 : n ≤ 511 := by omega
  have hoks := ed_ok hEm
  have hbd := rk_all hEm hFf
  obtain ⟨u1, hu1⟩ : ∃ z, xs (9 * n + 1) = z := ⟨_, rfl⟩
  obtain ⟨u2, hu2⟩ : ∃ z, xs (9 * n + 2) = z := ⟨_, rfl⟩
  obtain ⟨u3, hu3⟩ : ∃ z, xs (9 * n + 3) = z := ⟨_, rfl⟩
  obtain ⟨u4, hu4⟩ : ∃ z, xs (9 * n + 4) = z := ⟨_, rfl⟩
  obtain ⟨d3, hd3⟩ : ∃ z, (u3.toInt64 <<< ((32 : Int32).toInt64 &&& 63)) ||| (u4.toInt64 &&& 4294967295) = z := ⟨_, rfl⟩
  obtain ⟨_, _, _, _, _, _, _, bnf, bfl, bfk, _⟩ := id hFf
  by_cases hb1 : (u1 < 0 ∨ 30 ≤ u1) ∨ (u2 < 0 ∨ 6 ≤ u2) ∨ (d3 < 0 ∨ 100000 < d3)
  · have hbad : lst (lP fl fk u1 u2) nf = none ∨ (d3 < 0 ∨ 100000 < d3) := by
      rcases hb1 with q | q | q
      · exact Or.inl (lP_bad bfl bfk (Or.inl q))
      · exact Or.inl (lP_bad bfl bfk (Or.inr q))
      · exact Or.inr q
    refine lv_aload_n hx hb d_LA_law_352 rfl (lv_at hl 1 rfl) ?_
    refine lv_aload_n hx hb d_LA_law_353 rfl (lv_at hl 0 rfl) ?_
    refine lv_iload_n hx hb d_LA_law_354 rfl (lv_at hl 3 rfl) ?_
    refine lv_iconst (v := 1) hx hb d_LA_law_355 (by decide) ?_
    refine lv_iadd hx hb d_LA_law_356 ?_
    refine f_asi (nI_add (9 * n) 1) ?_
    refine f_ialdn (k := ((9 * n) + 1)) (v := u1) hx hb hI g_b hfb (by omega) (by omega) hu1 d_LA_law_357 ?_
    refine lv_aload_n hx hb d_LA_law_358 rfl (lv_at hl 0 rfl) ?_
    refine lv_iload_n hx hb d_LA_law_359 rfl (lv_at hl 3 rfl) ?_
    refine lv_iconst (v := 2) hx hb d_LA_law_360 (by decide) ?_
    refine lv_iadd hx hb d_LA_law_361 ?_
    refine f_asi (nI_add (9 * n) 2) ?_
    refine f_ialdn (k := ((9 * n) + 2)) (v := u2) hx hb hI g_b hfb (by omega) (by omega) hu2 d_LA_law_362 ?_
    refine lv_aload_n hx hb d_LA_law_363 rfl (lv_at hl 0 rfl) ?_
    refine lv_iload_n hx hb d_LA_law_364 rfl (lv_at hl 3 rfl) ?_
    refine lv_iconst (v := 3) hx hb d_LA_law_365 (by decide) ?_
    refine lv_iadd hx hb d_LA_law_366 ?_
    refine f_asi (nI_add (9 * n) 3) ?_
    refine f_ialdn (k := ((9 * n) + 3)) (v := u3) hx hb hI g_b hfb (by omega) (by omega) hu3 d_LA_law_367 ?_
    refine lv_i2l hx hb d_LA_law_368 rfl ?_
    refine lv_bipush (v := 32) hx hb d_LA_law_369 (by decide) ?_
    refine lv_lshl hx hb d_LA_law_371 rfl ?_
    refine lv_aload_n hx hb d_LA_law_372 rfl (lv_at hl 0 rfl) ?_
    refine lv_iload_n hx hb d_LA_law_373 rfl (lv_at hl 3 rfl) ?_
    refine lv_iconst (v := 4) hx hb d_LA_law_374 (by decide) ?_
    refine lv_iadd hx hb d_LA_law_375 ?_
    refine f_asi (nI_add (9 * n) 4) ?_
    refine f_ialdn (k := ((9 * n) + 4)) (v := u4) hx hb hI g_b hfb (by omega) (by omega) hu4 d_LA_law_376 ?_
    refine lv_i2l hx hb d_LA_law_377 rfl ?_
    refine lv_ldc2 (v := 4294967295) hx hb hown (hT _ w_1095) d_LA_law_378 ?_
    refine lv_land hx hb d_LA_law_381 ?_
    refine lv_lor hx hb d_LA_law_382 ?_
    refine f_asl hd3 ?_
    refine f_calli hI (f_runV C hI (c_DR_told_a l G h1 _ X T E F D I R Wr wa nr lr g_X u1 u2 d3 hb1) gm_DR_told w_603 w_604 w_602 g_X rfl rfl rfl hl.1 rfl (Nat.le_of_ble_eq_true rfl) ⟨Nat.le_of_ble_eq_true rfl, Nat.le_of_ble_eq_true rfl⟩ d_LA_law_383 ⟨by show _ ≤ 600000; (try dsimp only); omega, by show _ ≤ 7302250; (try dsimp only); omega⟩) (fun r_1 h8 H9 locs hp9 hX9 hz9 hI => ?_)
    obtain ⟨rfl, e9⟩ := hp9
    rw [e9] at hI
    clear hX9 e9
    refine lv_aload_n hx hb d_LA_law_386 rfl (lv_at hl 2 rfl) ?_
    refine lv_aload_n hx hb d_LA_law_387 rfl (lv_at hl 0 rfl) ?_
    refine lv_iload_n hx hb d_LA_law_388 rfl (lv_at hl 3 rfl) ?_
    refine lv_iconst (v := 1) hx hb d_LA_law_389 (by decide) ?_
    refine lv_iadd hx hb d_LA_law_390 ?_
    refine f_asi (nI_add (9 * n) 1) ?_
    refine f_ialdn (k := ((9 * n) + 1)) (v := u1) hx hb hI g_b hfb (by omega) (by omega) hu1 d_LA_law_391 ?_
    refine lv_aload_n hx hb d_LA_law_392 rfl (lv_at hl 0 rfl) ?_
    refine lv_iload_n hx hb d_LA_law_393 rfl (lv_at hl 3 rfl) ?_
    refine lv_iconst (v := 2) hx hb d_LA_law_394 (by decide) ?_
    refine lv_iadd hx hb d_LA_law_395 ?_
    refine f_asi (nI_add (9 * n) 2) ?_
    refine f_ialdn (k := ((9 * n) + 2)) (v := u2) hx hb hI g_b hfb (by omega) (by omega) hu2 d_LA_law_396 ?_
    refine lv_aload_n hx hb d_LA_law_397 rfl (lv_at hl 0 rfl) ?_
    refine lv_iload_n hx hb d_LA_law_398 rfl (lv_at hl 3 rfl) ?_
    refine lv_iconst (v := 3) hx hb d_LA_law_399 (by decide) ?_
    refine lv_iadd hx hb d_LA_law_400 ?_
    refine f_asi (nI_add (9 * n) 3) ?_
    refine f_ialdn (k := ((9 * n) + 3)) (v := u3) hx hb hI g_b hfb (by omega) (by omega) hu3 d_LA_law_401 ?_
    refine lv_i2l hx hb d_LA_law_402 rfl ?_
    refine lv_bipush (v := 32) hx hb d_LA_law_403 (by decide) ?_
    refine lv_lshl hx hb d_LA_law_405 rfl ?_
    refine lv_aload_n hx hb d_LA_law_406 rfl (lv_at hl 0 rfl) ?_
    refine lv_iload_n hx hb d_LA_law_407 rfl (lv_at hl 3 rfl) ?_
    refine lv_iconst (v := 4) hx hb d_LA_law_408 (by decide) ?_
    refine lv_iadd hx hb d_LA_law_409 ?_
    refine f_asi (nI_add (9 * n) 4) ?_
    refine f_ialdn (k := ((9 * n) + 4)) (v := u4) hx hb hI g_b hfb (by omega) (by omega) hu4 d_LA_law_410 ?_
    refine lv_i2l hx hb d_LA_law_411 rfl ?_
    refine lv_ldc2 (v := 4294967295) hx hb hown (hT _ w_1095) d_LA_law_412 ?_
    refine lv_land hx hb d_LA_law_415 ?_
    refine lv_lor hx hb d_LA_law_416 ?_
    refine f_asl hd3 ?_
    refine f_calli hI (f_runV C hI (c_MO_told_no l G h1 _ M u1 u2 mf g_M nf fl fk fd fw fv hFf la v_13 bla d3 hbad) gm_MO_told w_1010 w_1011 w_1009 g_M rfl rfl rfl hl.1 rfl (Nat.le_of_ble_eq_true rfl) ⟨Nat.le_of_ble_eq_true rfl, Nat.le_of_ble_eq_true rfl⟩ d_LA_law_417 ⟨by show _ ≤ 600000; (try dsimp only); omega, by show _ ≤ 7302250; (try dsimp only); omega⟩) (fun r_2 h8 H9 locs hp9 hX9 hz9 hI => ?_)
    obtain ⟨rfl, e9⟩ := hp9
    rw [e9] at hI
    clear hX9 e9
    refine lv_icmp_eq (tgt := 859) hx hb d_LA_law_420 (by decide) (fun c_3 => ?_) (fun c_3 => absurd rfl c_3)
    refine K _ _ _ _ _ (by (try dsimp only); omega) (by (try dsimp only); omega) ⟨tn, tx, ne, ef, rr, rm, nf, la, fl, fk, fd, fw, fv, sL, sR, Ls, th, du, wr, rn, rl, rD, rM, L9, hr, hc, hp⟩ hX hI ls ?_
    exact lv_sub hl [0, 1, 2, 3] rfl
  · obtain ⟨lo, blo, hlo⟩ := rng_of (N := 30) (k := 30) (by decide) rfl (fun q => hb1 (Or.inl q))
    obtain ⟨ki, bki, hki⟩ := rng_of (N := 6) (k := 6) (by decide) rfl (fun q => hb1 (Or.inr (Or.inl q)))
    obtain ⟨dd, bd, hdd⟩ := day_of (fun q => hb1 (Or.inr (Or.inr q)))
    subst hlo hki hdd
    have hLP := lP_n (nf := nf) bfl bfk blo bki
    rcases eL : lst (lQ fl fk lo ki) nf with _ | j
    · skip
      refine lv_aload_n hx hb d_LA_law_352 rfl (lv_at hl 1 rfl) ?_
      refine lv_aload_n hx hb d_LA_law_353 rfl (lv_at hl 0 rfl) ?_
      refine lv_iload_n hx hb d_LA_law_354 rfl (lv_at hl 3 rfl) ?_
      refine lv_iconst (v := 1) hx hb d_LA_law_355 (by decide) ?_
      refine lv_iadd hx hb d_LA_law_356 ?_
      refine f_asi (nI_add (9 * n) 1) ?_
      refine f_ialdn (k := ((9 * n) + 1)) (v := (nI lo)) hx hb hI g_b hfb (by omega) (by omega) hu1 d_LA_law_357 ?_
      refine lv_aload_n hx hb d_LA_law_358 rfl (lv_at hl 0 rfl) ?_
      refine lv_iload_n hx hb d_LA_law_359 rfl (lv_at hl 3 rfl) ?_
      refine lv_iconst (v := 2) hx hb d_LA_law_360 (by decide) ?_
      refine lv_iadd hx hb d_LA_law_361 ?_
      refine f_asi (nI_add (9 * n) 2) ?_
      refine f_ialdn (k := ((9 * n) + 2)) (v := (nI ki)) hx hb hI g_b hfb (by omega) (by omega) hu2 d_LA_law_362 ?_
      refine lv_aload_n hx hb d_LA_law_363 rfl (lv_at hl 0 rfl) ?_
      refine lv_iload_n hx hb d_LA_law_364 rfl (lv_at hl 3 rfl) ?_
      refine lv_iconst (v := 3) hx hb d_LA_law_365 (by decide) ?_
      refine lv_iadd hx hb d_LA_law_366 ?_
      refine f_asi (nI_add (9 * n) 3) ?_
      refine f_ialdn (k := ((9 * n) + 3)) (v := u3) hx hb hI g_b hfb (by omega) (by omega) hu3 d_LA_law_367 ?_
      refine lv_i2l hx hb d_LA_law_368 rfl ?_
      refine lv_bipush (v := 32) hx hb d_LA_law_369 (by decide) ?_
      refine lv_lshl hx hb d_LA_law_371 rfl ?_
      refine lv_aload_n hx hb d_LA_law_372 rfl (lv_at hl 0 rfl) ?_
      refine lv_iload_n hx hb d_LA_law_373 rfl (lv_at hl 3 rfl) ?_
      refine lv_iconst (v := 4) hx hb d_LA_law_374 (by decide) ?_
      refine lv_iadd hx hb d_LA_law_375 ?_
      refine f_asi (nI_add (9 * n) 4) ?_
      refine f_ialdn (k := ((9 * n) + 4)) (v := u4) hx hb hI g_b hfb (by omega) (by omega) hu4 d_LA_law_376 ?_
      refine lv_i2l hx hb d_LA_law_377 rfl ?_
      refine lv_ldc2 (v := 4294967295) hx hb hown (hT _ w_1095) d_LA_law_378 ?_
      refine lv_land hx hb d_LA_law_381 ?_
      refine lv_lor hx hb d_LA_law_382 ?_
      refine f_asl hd3 ?_
      refine f_calli hI (f_runV C hI (c_DR_told_no l G h1 _ X T E F D I R Wr wa nr lr g_X A fa gq nf la fl fk fd fw fv hC lo ki blo bki dd bd eL) gm_DR_told w_603 w_604 w_602 g_X rfl rfl rfl hl.1 rfl (Nat.le_of_ble_eq_true rfl) ⟨Nat.le_of_ble_eq_true rfl, Nat.le_of_ble_eq_true rfl⟩ d_LA_law_383 ⟨by show _ ≤ 600000; (try dsimp only); omega, by show _ ≤ 7302250; (try dsimp only); omega⟩) (fun r_4 h8 H9 locs hp9 hX9 hz9 hI => ?_)
      obtain ⟨rfl, e9⟩ := hp9
      rw [e9] at hI
      clear hX9 e9
      refine lv_aload_n hx hb d_LA_law_386 rfl (lv_at hl 2 rfl) ?_
      refine lv_aload_n hx hb d_LA_law_387 rfl (lv_at hl 0 rfl) ?_
      refine lv_iload_n hx hb d_LA_law_388 rfl (lv_at hl 3 rfl) ?_
      refine lv_iconst (v := 1) hx hb d_LA_law_389 (by decide) ?_
      refine lv_iadd hx hb d_LA_law_390 ?_
      refine f_asi (nI_add (9 * n) 1) ?_
      refine f_ialdn (k := ((9 * n) + 1)) (v := (nI lo)) hx hb hI g_b hfb (by omega) (by omega) hu1 d_LA_law_391 ?_
      refine lv_aload_n hx hb d_LA_law_392 rfl (lv_at hl 0 rfl) ?_
      refine lv_iload_n hx hb d_LA_law_393 rfl (lv_at hl 3 rfl) ?_
      refine lv_iconst (v := 2) hx hb d_LA_law_394 (by decide) ?_
      refine lv_iadd hx hb d_LA_law_395 ?_
      refine f_asi (nI_add (9 * n) 2) ?_
      refine f_ialdn (k := ((9 * n) + 2)) (v := (nI ki)) hx hb hI g_b hfb (by omega) (by omega) hu2 d_LA_law_396 ?_
      refine lv_aload_n hx hb d_LA_law_397 rfl (lv_at hl 0 rfl) ?_
      refine lv_iload_n hx hb d_LA_law_398 rfl (lv_at hl 3 rfl) ?_
      refine lv_iconst (v := 3) hx hb d_LA_law_399 (by decide) ?_
      refine lv_iadd hx hb d_LA_law_400 ?_
      refine f_asi (nI_add (9 * n) 3) ?_
      refine f_ialdn (k := ((9 * n) + 3)) (v := u3) hx hb hI g_b hfb (by omega) (by omega) hu3 d_LA_law_401 ?_
      refine lv_i2l hx hb d_LA_law_402 rfl ?_
      refine lv_bipush (v := 32) hx hb d_LA_law_403 (by decide) ?_
      refine lv_lshl hx hb d_LA_law_405 rfl ?_
      refine lv_aload_n hx hb d_LA_law_406 rfl (lv_at hl 0 rfl) ?_
      refine lv_iload_n hx hb d_LA_law_407 rfl (lv_at hl 3 rfl) ?_
      refine lv_iconst (v := 4) hx hb d_LA_law_408 (by decide) ?_
      refine lv_iadd hx hb d_LA_law_409 ?_
      refine f_asi (nI_add (9 * n) 4) ?_
      refine f_ialdn (k := ((9 * n) + 4)) (v := u4) hx hb hI g_b hfb (by omega) (by omega) hu4 d_LA_law_410 ?_
      refine lv_i2l hx hb d_LA_law_411 rfl ?_
      refine lv_ldc2 (v := 4294967295) hx hb hown (hT _ w_1095) d_LA_law_412 ?_
      refine lv_land hx hb d_LA_law_415 ?_
      refine lv_lor hx hb d_LA_law_416 ?_
      refine f_asl hd3 ?_
      refine f_calli hI (f_runV C hI (c_MO_told_no l G h1 _ M (nI lo) (nI ki) mf g_M nf fl fk fd fw fv hFf la v_13 bla (lN dd) (Or.inl (hLP.trans eL))) gm_MO_told w_1010 w_1011 w_1009 g_M rfl rfl rfl hl.1 rfl (Nat.le_of_ble_eq_true rfl) ⟨Nat.le_of_ble_eq_true rfl, Nat.le_of_ble_eq_true rfl⟩ d_LA_law_417 ⟨by show _ ≤ 600000; (try dsimp only); omega, by show _ ≤ 7302250; (try dsimp only); omega⟩) (fun r_5 h8 H9 locs hp9 hX9 hz9 hI => ?_)
      obtain ⟨rfl, e9⟩ := hp9
      rw [e9] at hI
      clear hX9 e9
      refine lv_icmp_eq (tgt := 859) hx hb d_LA_law_420 (by decide) (fun c_6 => ?_) (fun c_6 => absurd rfl c_6)
      refine K _ _ _ _ _ (by (try dsimp only); omega) (by (try dsimp only); omega) ⟨tn, tx, ne, ef, rr, rm, nf, la, fl, fk, fd, fw, fv, sL, sR, Ls, th, du, wr, rn, rl, rD, rM, L9, hr, hc, hp⟩ hX hI ls ?_
      exact lv_sub hl [0, 1, 2, 3] rfl
    · skip
      refine lv_aload_n hx hb d_LA_law_352 rfl (lv_at hl 1 rfl) ?_
      refine lv_aload_n hx hb d_LA_law_353 rfl (lv_at hl 0 rfl) ?_
      refine lv_iload_n hx hb d_LA_law_354 rfl (lv_at hl 3 rfl) ?_
      refine lv_iconst (v := 1) hx hb d_LA_law_355 (by decide) ?_
      refine lv_iadd hx hb d_LA_law_356 ?_
      refine f_asi (nI_add (9 * n) 1) ?_
      refine f_ialdn (k := ((9 * n) + 1)) (v := (nI lo)) hx hb hI g_b hfb (by omega) (by omega) hu1 d_LA_law_357 ?_
      refine lv_aload_n hx hb d_LA_law_358 rfl (lv_at hl 0 rfl) ?_
      refine lv_iload_n hx hb d_LA_law_359 rfl (lv_at hl 3 rfl) ?_
      refine lv_iconst (v := 2) hx hb d_LA_law_360 (by decide) ?_
      refine lv_iadd hx hb d_LA_law_361 ?_
      refine f_asi (nI_add (9 * n) 2) ?_
      refine f_ialdn (k := ((9 * n) + 2)) (v := (nI ki)) hx hb hI g_b hfb (by omega) (by omega) hu2 d_LA_law_362 ?_
      refine lv_aload_n hx hb d_LA_law_363 rfl (lv_at hl 0 rfl) ?_
      refine lv_iload_n hx hb d_LA_law_364 rfl (lv_at hl 3 rfl) ?_
      refine lv_iconst (v := 3) hx hb d_LA_law_365 (by decide) ?_
      refine lv_iadd hx hb d_LA_law_366 ?_
      refine f_asi (nI_add (9 * n) 3) ?_
      refine f_ialdn (k := ((9 * n) + 3)) (v := u3) hx hb hI g_b hfb (by omega) (by omega) hu3 d_LA_law_367 ?_
      refine lv_i2l hx hb d_LA_law_368 rfl ?_
      refine lv_bipush (v := 32) hx hb d_LA_law_369 (by decide) ?_
      refine lv_lshl hx hb d_LA_law_371 rfl ?_
      refine lv_aload_n hx hb d_LA_law_372 rfl (lv_at hl 0 rfl) ?_
      refine lv_iload_n hx hb d_LA_law_373 rfl (lv_at hl 3 rfl) ?_
      refine lv_iconst (v := 4) hx hb d_LA_law_374 (by decide) ?_
      refine lv_iadd hx hb d_LA_law_375 ?_
      refine f_asi (nI_add (9 * n) 4) ?_
      refine f_ialdn (k := ((9 * n) + 4)) (v := u4) hx hb hI g_b hfb (by omega) (by omega) hu4 d_LA_law_376 ?_
      refine lv_i2l hx hb d_LA_law_377 rfl ?_
      refine lv_ldc2 (v := 4294967295) hx hb hown (hT _ w_1095) d_LA_law_378 ?_
      refine lv_land hx hb d_LA_law_381 ?_
      refine lv_lor hx hb d_LA_law_382 ?_
      refine f_asl hd3 ?_
      have hzA := hI.2.2.2.1
      refine f_calli hI (f_runV C hI (c_DR_told_ok l G h1 _ X T E F D I R Wr wa nr lr g_X A fa gq nf la fl fk fd fw fv hC lo ki blo bki dd bd j eL) gm_DR_told w_603 w_604 w_602 g_X rfl rfl rfl hl.1 rfl (Nat.le_of_ble_eq_true rfl) ⟨Nat.le_of_ble_eq_true rfl, Nat.le_of_ble_eq_true rfl⟩ d_LA_law_383 ⟨by show _ ≤ 600000; (try dsimp only); omega, by show _ ≤ 7302250; (try dsimp only); omega⟩) (fun r_7 h9 H9 locs hp9 hX9 hz9 hI => ?_)
      obtain ⟨rfl, hC9, hF9⟩ := hp9
      have hX := fX.tr (Nat.le_trans (Nat.le_of_eq hsz.symm) hzA) hX hX9
      have hFc : fF (inR [10, 12]) h1 h9 := hF9.mono (fun r9 o9 z => (by simp only [inR, inD, inXD, inRt, List.mem_cons, List.not_mem_nil, or_false] at z ⊢; omega : inR [10, 12] r9 o9))
      have hr := hr.keep hFc (by decide)
      obtain ⟨mf, rg, g_M, hTx, hRd, hEm, hFf, v_13, hS0, hSh, hRt⟩ := id hr
      have hKc := hK0.keepX hX
      have g_b := hKc.2.2.2
      have hS8 := hS.keepF hFc (nr_1 hr12 (by decide)) (nr_2 hr12 (by decide))
      have hc9 : cAll G h9 X tn tx ne ef rr rm nf (max la dd) fl fk fd (va_up fw j dd) fv sL sR Ls th du wr rn rl rD rM L9 := ⟨T, E, F, D, I, R, Wr, wa, nr, lr, mm, A, fa, gq, nn, pr, pm, chs, lt, rs, hv, d, r1, r2, o1, hFc _ _ _ _ g_X (by decide), ⟨hB.keepF hFc (by decide) (by decide), bmm⟩, hEd.keepF hFc (by decide), hcR.keepF hFc (by decide) (by decide) (by decide), hC9, ⟨hD.keepF hFc (fun r9 q1 q2 q => by simp only [inR, List.mem_cons, List.not_mem_nil, or_false] at q; omega), hsh⟩, hIn.keepG hFc (fun r9 q1 q2 q => by simp only [inR, List.mem_cons, List.not_mem_nil, or_false] at q; omega), ⟨hS8, hr12⟩, ⟨hCh.keepF hFc (fun r9 o9 q1 q2 q => by simp only [inR, List.mem_cons, List.not_mem_nil, or_false] at q; omega), hnr⟩, hlr, hwr⟩
      refine lv_aload_n hx hb d_LA_law_386 rfl (lv_at hl 2 rfl) ?_
      refine lv_aload_n hx hb d_LA_law_387 rfl (lv_at hl 0 rfl) ?_
      refine lv_iload_n hx hb d_LA_law_388 rfl (lv_at hl 3 rfl) ?_
      refine lv_iconst (v := 1) hx hb d_LA_law_389 (by decide) ?_
      refine lv_iadd hx hb d_LA_law_390 ?_
      refine f_asi (nI_add (9 * n) 1) ?_
      refine f_ialdn (k := ((9 * n) + 1)) (v := (nI lo)) hx hb hI g_b hfb (by omega) (by omega) hu1 d_LA_law_391 ?_
      refine lv_aload_n hx hb d_LA_law_392 rfl (lv_at hl 0 rfl) ?_
      refine lv_iload_n hx hb d_LA_law_393 rfl (lv_at hl 3 rfl) ?_
      refine lv_iconst (v := 2) hx hb d_LA_law_394 (by decide) ?_
      refine lv_iadd hx hb d_LA_law_395 ?_
      refine f_asi (nI_add (9 * n) 2) ?_
      refine f_ialdn (k := ((9 * n) + 2)) (v := (nI ki)) hx hb hI g_b hfb (by omega) (by omega) hu2 d_LA_law_396 ?_
      refine lv_aload_n hx hb d_LA_law_397 rfl (lv_at hl 0 rfl) ?_
      refine lv_iload_n hx hb d_LA_law_398 rfl (lv_at hl 3 rfl) ?_
      refine lv_iconst (v := 3) hx hb d_LA_law_399 (by decide) ?_
      refine lv_iadd hx hb d_LA_law_400 ?_
      refine f_asi (nI_add (9 * n) 3) ?_
      refine f_ialdn (k := ((9 * n) + 3)) (v := u3) hx hb hI g_b hfb (by omega) (by omega) hu3 d_LA_law_401 ?_
      refine lv_i2l hx hb d_LA_law_402 rfl ?_
      refine lv_bipush (v := 32) hx hb d_LA_law_403 (by decide) ?_
      refine lv_lshl hx hb d_LA_law_405 rfl ?_
      refine lv_aload_n hx hb d_LA_law_406 rfl (lv_at hl 0 rfl) ?_
      refine lv_iload_n hx hb d_LA_law_407 rfl (lv_at hl 3 rfl) ?_
      refine lv_iconst (v := 4) hx hb d_LA_law_408 (by decide) ?_
      refine lv_iadd hx hb d_LA_law_409 ?_
      refine f_asi (nI_add (9 * n) 4) ?_
      refine f_ialdn (k := ((9 * n) + 4)) (v := u4) hx hb hI g_b hfb (by omega) (by omega) hu4 d_LA_law_410 ?_
      refine lv_i2l hx hb d_LA_law_411 rfl ?_
      refine lv_ldc2 (v := 4294967295) hx hb hown (hT _ w_1095) d_LA_law_412 ?_
      refine lv_land hx hb d_LA_law_415 ?_
      refine lv_lor hx hb d_LA_law_416 ?_
      refine f_asl hd3 ?_
      have hzA := hI.2.2.2.1
      refine f_calli hI (f_runV C hI (c_MO_told_ok l G h9 _ M (nI lo) (nI ki) mf g_M nf fl fk fd fw fv hFf la v_13 bla dd j bd (hLP.trans eL)) gm_MO_told w_1010 w_1011 w_1009 g_M rfl rfl rfl hl.1 rfl (Nat.le_of_ble_eq_true rfl) ⟨Nat.le_of_ble_eq_true rfl, Nat.le_of_ble_eq_true rfl⟩ d_LA_law_417 ⟨by show _ ≤ 600000; (try dsimp only); omega, by show _ ≤ 7302250; (try dsimp only); omega⟩) (fun r_8 h9 H9 locs hp9 hX9 hz9 hI => ?_)
      obtain ⟨rfl, mf2, g_M, hm9, hFf9, v139, hF9⟩ := hp9
      have hX := fX.tr (Nat.le_trans (Nat.le_of_eq hsz.symm) hzA) hX hX9
      have hr : rAll G h9 M tn tx ne ef rr rm nf (max la dd) fl fk fd (va_up fw j dd) fv sL sR Ls th du wr rn rl rD rM := ⟨mf2, rg, g_M, hTx.keep (fun j q1 q2 => hm9 j (by omega)) hF9 (by decide), hRd.keep (fun j q1 q2 => hm9 j (by omega)) hF9 (by decide), hEm.keep (fun j q1 q2 => hm9 j (by omega)) hF9 (by decide), hFf9, v139, hS0.keep (fun j q1 q2 => hm9 j (by omega)) hF9 (by decide), hSh.keep (fun j q1 q2 => hm9 j (by omega)) hF9 (by decide), hRt.keep (fun j q1 q2 => hm9 j (by omega)) hF9 (by decide)⟩
      have hc9 := hc9.keep hF9 (by decide)
      have hp : pAll ef rr rm nf (max la dd) fl fk fd th wr L9 := ⟨hrep, hrm, by omega, hmon, hz0⟩
      refine lv_icmp_eq (tgt := 859) hx hb d_LA_law_420 (by decide) (fun c_9 => ?_) (fun c_9 => absurd rfl c_9)
      refine K _ _ _ _ _ (by (try dsimp only); omega) (by (try dsimp only); omega) ⟨tn, tx, ne, ef, rr, rm, nf, (max la dd), fl, fk, fd, (va_up fw j dd), fv, sL, sR, Ls, th, du, wr, rn, rl, rD, rM, L9, hr, hc9, hp⟩ hX hI ls ?_
      exact lv_sub hl [0, 1, 2, 3] rfl
