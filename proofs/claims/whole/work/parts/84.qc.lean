set_option maxHeartbeats 8000000 in
set_option maxRecDepth 100000 in
/-- the law: fact -/
theorem q_fact {p : Program} {e : Env} {s : State} {m : MethodId} {below : List Frame} {meth : Method} {c : Code} (l : Launch) (G : gG) (h : fH) (b L X M n : Nat) (xs : Nat → Int32) (cS : ClassId) (C : gC G p s m #[Value.ref b] meth c (fA h s.heap.size) code 4 "DutyRulesLaw" meth.name) (hfb : fT s cS .int) (hK0 : cst G h b cS L xs) (bL : L ≤ 4608) (hn : 9 * n + 9 ≤ L)
    (K : ∀ (h2 : fH) (H : Heap) (locs : List Loc) (cs ss : Nat), cs ≤ 50 + 320 * (n + 1) → ss ≤ 190000 + 11800 * (n + 1) → LI G h2 X M → fX h s.heap.size h2 → fI G.1 g_cl (fA h s.heap.size) s.heap h2 H locs → ∀ ls : Array Slot, lv_has ls 4 [(0, .ref b), (1, .ref X), (2, .ref M), (3, .int (nI (9 * n)))] → W p l e room_1 s m #[Value.ref b] below meth c H locs cs ss (lw_Z below #[Value.ref b] s) (F0 m 859 ls []))
    : ∀ (h1 : fH) (H : Heap) (locs : List Loc) (cs ss : Nat), cs ≤ 50 + 320 * n → ss ≤ 190000 + 11800 * n → LI G h1 X M → fX h s.heap.size h1 → fI G.1 g_cl (fA h s.heap.size) s.heap h1 H locs → ∀ ls : Array Slot, lv_has ls 4 [(0, .ref b), (1, .ref X), (2, .ref M), (3, .int (nI (9 * n)))] → W p l e room_1 s m #[Value.ref b] below meth c H locs cs ss (lw_Z below #[Value.ref b] s) (F0 m 193 ls []) := by
  intro h1 H locs cs ss hcs hss hLI hX hI ls hl
  obtain ⟨hx, hb, hml, hown, hnm, hlk, hT, hG, hZ⟩ := id C
  have hK := hG.1
  have hsz : s.heap.size = s.heap.size := rfl
  obtain ⟨tn, tx, ne, ef, rr, rm, nf, la, fl, fk, fd, fw, fv, sL, sR, Ls, th, du, wr, rn, rl, rD, rM, L9, hr, hc, hp⟩ := hLI
  obtain ⟨mf, rg, g_M, hTx, hRd, hEm, hFf, v_13, hS0, hSh, hRt⟩ := id hr
  obtain ⟨T, E, F, D, I, R, Wr, wa, nr, lr, mm, A, fa, gq, nn, pr, pm, chs, lt, rs, hv, d, r1, r2, o1, g_X, ⟨hB, bmm⟩, hEd, hcR, hC, ⟨hD, hsh⟩, hIn, ⟨hS, hr12⟩, ⟨hCh, hnr⟩, hlr, hwr⟩ := id hc
  obtain ⟨hrep, hrm, bla, hmon, hz0⟩ := id hp
  have hKc := hK0.keepX hX
  have g_b := hKc.2.2.2
  have hn5 : n ≤ 511 := by omega
  have hoks := ed_ok hEm
  have hbd := rk_all hEm hFf
  obtain ⟨u1, hu1⟩ : ∃ z, xs (9 * n + 1) = z := ⟨_, rfl⟩
  obtain ⟨u2, hu2⟩ : ∃ z, xs (9 * n + 2) = z := ⟨_, rfl⟩
  obtain ⟨u3, hu3⟩ : ∃ z, xs (9 * n + 3) = z := ⟨_, rfl⟩
  obtain ⟨u4, hu4⟩ : ∃ z, xs (9 * n + 4) = z := ⟨_, rfl⟩
  obtain ⟨u5, hu5⟩ : ∃ z, xs (9 * n + 5) = z := ⟨_, rfl⟩
  obtain ⟨u6, hu6⟩ : ∃ z, xs (9 * n + 6) = z := ⟨_, rfl⟩
  obtain ⟨u7, hu7⟩ : ∃ z, xs (9 * n + 7) = z := ⟨_, rfl⟩
  obtain ⟨u8, hu8⟩ : ∃ z, xs (9 * n + 8) = z := ⟨_, rfl⟩
  obtain ⟨d3, hd3⟩ : ∃ z, (u3.toInt64 <<< ((32 : Int32).toInt64 &&& 63)) ||| (u4.toInt64 &&& 4294967295) = z := ⟨_, rfl⟩
  obtain ⟨d5, hd5⟩ : ∃ z, (u5.toInt64 <<< ((32 : Int32).toInt64 &&& 63)) ||| (u6.toInt64 &&& 4294967295) = z := ⟨_, rfl⟩
  obtain ⟨d7, hd7⟩ : ∃ z, (u7.toInt64 <<< ((32 : Int32).toInt64 &&& 63)) ||| (u8.toInt64 &&& 4294967295) = z := ⟨_, rfl⟩
  by_cases hb1 : (u1 < 0 ∨ 30 ≤ u1) ∨ (u2 < 0 ∨ 6 ≤ u2) ∨ (d3 < 0 ∨ 100000 < d3) ∨ d7 < 1 ∨ 100 < d7 ∨ ¬ d5 - d5 / d7 * d7 = 0
  · have hbad : (u1 < 0 ∨ 30 ≤ u1) ∨ u2 < 0 ∨ 6 ≤ u2 ∨ (d3 < 0 ∨ 100000 < d3) ∨ d7 < 1 ∨ 100 < d7 ∨ ¬ d5 - d5 / d7 * d7 = 0 ∨ d5 / d7 < 0 ∨ (if u2 = 0 then (9 : Int64) else (if u2 = 1 then 10000 else (if u2 = 3 then 100000000 else 1000000))) < d5 / d7 ∨ nf = 300 := by rcases hb1 with q | (q | q) | q | q | q | q <;> simp [q]
    refine lv_aload_n hx hb d_LA_law_193 rfl (lv_at hl 1 rfl) ?_
    refine lv_aload_n hx hb d_LA_law_194 rfl (lv_at hl 0 rfl) ?_
    refine lv_iload_n hx hb d_LA_law_195 rfl (lv_at hl 3 rfl) ?_
    refine lv_iconst (v := 1) hx hb d_LA_law_196 (by decide) ?_
    refine lv_iadd hx hb d_LA_law_197 ?_
    refine f_asi (nI_add (9 * n) 1) ?_
    refine f_ialdn (k := ((9 * n) + 1)) (v := u1) hx hb hI g_b hfb (by omega) (by omega) hu1 d_LA_law_198 ?_
    refine lv_aload_n hx hb d_LA_law_199 rfl (lv_at hl 0 rfl) ?_
    refine lv_iload_n hx hb d_LA_law_200 rfl (lv_at hl 3 rfl) ?_
    refine lv_iconst (v := 2) hx hb d_LA_law_201 (by decide) ?_
    refine lv_iadd hx hb d_LA_law_202 ?_
    refine f_asi (nI_add (9 * n) 2) ?_
    refine f_ialdn (k := ((9 * n) + 2)) (v := u2) hx hb hI g_b hfb (by omega) (by omega) hu2 d_LA_law_203 ?_
    refine lv_aload_n hx hb d_LA_law_204 rfl (lv_at hl 0 rfl) ?_
    refine lv_iload_n hx hb d_LA_law_205 rfl (lv_at hl 3 rfl) ?_
    refine lv_iconst (v := 3) hx hb d_LA_law_206 (by decide) ?_
    refine lv_iadd hx hb d_LA_law_207 ?_
    refine f_asi (nI_add (9 * n) 3) ?_
    refine f_ialdn (k := ((9 * n) + 3)) (v := u3) hx hb hI g_b hfb (by omega) (by omega) hu3 d_LA_law_208 ?_
    refine lv_i2l hx hb d_LA_law_209 rfl ?_
    refine lv_bipush (v := 32) hx hb d_LA_law_210 (by decide) ?_
    refine lv_lshl hx hb d_LA_law_212 rfl ?_
    refine lv_aload_n hx hb d_LA_law_213 rfl (lv_at hl 0 rfl) ?_
    refine lv_iload_n hx hb d_LA_law_214 rfl (lv_at hl 3 rfl) ?_
    refine lv_iconst (v := 4) hx hb d_LA_law_215 (by decide) ?_
    refine lv_iadd hx hb d_LA_law_216 ?_
    refine f_asi (nI_add (9 * n) 4) ?_
    refine f_ialdn (k := ((9 * n) + 4)) (v := u4) hx hb hI g_b hfb (by omega) (by omega) hu4 d_LA_law_217 ?_
    refine lv_i2l hx hb d_LA_law_218 rfl ?_
    refine lv_ldc2 (v := 4294967295) hx hb hown (hT _ w_1095) d_LA_law_219 ?_
    refine lv_land hx hb d_LA_law_222 ?_
    refine lv_lor hx hb d_LA_law_223 ?_
    refine f_asl hd3 ?_
    refine lv_aload_n hx hb d_LA_law_224 rfl (lv_at hl 0 rfl) ?_
    refine lv_iload_n hx hb d_LA_law_225 rfl (lv_at hl 3 rfl) ?_
    refine lv_iconst (v := 5) hx hb d_LA_law_226 (by decide) ?_
    refine lv_iadd hx hb d_LA_law_227 ?_
    refine f_asi (nI_add (9 * n) 5) ?_
    refine f_ialdn (k := ((9 * n) + 5)) (v := u5) hx hb hI g_b hfb (by omega) (by omega) hu5 d_LA_law_228 ?_
    refine lv_i2l hx hb d_LA_law_229 rfl ?_
    refine lv_bipush (v := 32) hx hb d_LA_law_230 (by decide) ?_
    refine lv_lshl hx hb d_LA_law_232 rfl ?_
    refine lv_aload_n hx hb d_LA_law_233 rfl (lv_at hl 0 rfl) ?_
    refine lv_iload_n hx hb d_LA_law_234 rfl (lv_at hl 3 rfl) ?_
    refine lv_bipush (v := 6) hx hb d_LA_law_235 (by decide) ?_
    refine lv_iadd hx hb d_LA_law_237 ?_
    refine f_asi (nI_add (9 * n) 6) ?_
    refine f_ialdn (k := ((9 * n) + 6)) (v := u6) hx hb hI g_b hfb (by omega) (by omega) hu6 d_LA_law_238 ?_
    refine lv_i2l hx hb d_LA_law_239 rfl ?_
    refine lv_ldc2 (v := 4294967295) hx hb hown (hT _ w_1095) d_LA_law_240 ?_
    refine lv_land hx hb d_LA_law_243 ?_
    refine lv_lor hx hb d_LA_law_244 ?_
    refine f_asl hd5 ?_
    refine lv_aload_n hx hb d_LA_law_245 rfl (lv_at hl 0 rfl) ?_
    refine lv_iload_n hx hb d_LA_law_246 rfl (lv_at hl 3 rfl) ?_
    refine lv_bipush (v := 7) hx hb d_LA_law_247 (by decide) ?_
    refine lv_iadd hx hb d_LA_law_249 ?_
    refine f_asi (nI_add (9 * n) 7) ?_
    refine f_ialdn (k := ((9 * n) + 7)) (v := u7) hx hb hI g_b hfb (by omega) (by omega) hu7 d_LA_law_250 ?_
    refine lv_i2l hx hb d_LA_law_251 rfl ?_
    refine lv_bipush (v := 32) hx hb d_LA_law_252 (by decide) ?_
    refine lv_lshl hx hb d_LA_law_254 rfl ?_
    refine lv_aload_n hx hb d_LA_law_255 rfl (lv_at hl 0 rfl) ?_
    refine lv_iload_n hx hb d_LA_law_256 rfl (lv_at hl 3 rfl) ?_
    refine lv_bipush (v := 8) hx hb d_LA_law_257 (by decide) ?_
    refine lv_iadd hx hb d_LA_law_259 ?_
    refine f_asi (nI_add (9 * n) 8) ?_
    refine f_ialdn (k := ((9 * n) + 8)) (v := u8) hx hb hI g_b hfb (by omega) (by omega) hu8 d_LA_law_260 ?_
    refine lv_i2l hx hb d_LA_law_261 rfl ?_
    refine lv_ldc2 (v := 4294967295) hx hb hown (hT _ w_1095) d_LA_law_262 ?_
    refine lv_land hx hb d_LA_law_265 ?_
    refine lv_lor hx hb d_LA_law_266 ?_
    refine f_asl hd7 ?_
    refine f_calli hI (f_runV C hI (c_DR_fact_a l G h1 _ X T E F D I R Wr wa nr lr g_X u1 u2 d3 d5 d7 hb1) gm_DR_fact w_555 w_556 w_554 g_X rfl rfl rfl hl.1 rfl (Nat.le_of_ble_eq_true rfl) ⟨Nat.le_of_ble_eq_true rfl, Nat.le_of_ble_eq_true rfl⟩ d_LA_law_267 ⟨by show _ ≤ 600000; (try dsimp only); omega, by show _ ≤ 7302250; (try dsimp only); omega⟩) (fun r_1 h8 H9 locs hp9 hX9 hz9 hI => ?_)
    obtain ⟨rfl, e9⟩ := hp9
    rw [e9] at hI
    clear hX9 e9
    refine lv_aload_n hx hb d_LA_law_270 rfl (lv_at hl 2 rfl) ?_
    refine lv_aload_n hx hb d_LA_law_271 rfl (lv_at hl 0 rfl) ?_
    refine lv_iload_n hx hb d_LA_law_272 rfl (lv_at hl 3 rfl) ?_
    refine lv_iconst (v := 1) hx hb d_LA_law_273 (by decide) ?_
    refine lv_iadd hx hb d_LA_law_274 ?_
    refine f_asi (nI_add (9 * n) 1) ?_
    refine f_ialdn (k := ((9 * n) + 1)) (v := u1) hx hb hI g_b hfb (by omega) (by omega) hu1 d_LA_law_275 ?_
    refine lv_aload_n hx hb d_LA_law_276 rfl (lv_at hl 0 rfl) ?_
    refine lv_iload_n hx hb d_LA_law_277 rfl (lv_at hl 3 rfl) ?_
    refine lv_iconst (v := 2) hx hb d_LA_law_278 (by decide) ?_
    refine lv_iadd hx hb d_LA_law_279 ?_
    refine f_asi (nI_add (9 * n) 2) ?_
    refine f_ialdn (k := ((9 * n) + 2)) (v := u2) hx hb hI g_b hfb (by omega) (by omega) hu2 d_LA_law_280 ?_
    refine lv_aload_n hx hb d_LA_law_281 rfl (lv_at hl 0 rfl) ?_
    refine lv_iload_n hx hb d_LA_law_282 rfl (lv_at hl 3 rfl) ?_
    refine lv_iconst (v := 3) hx hb d_LA_law_283 (by decide) ?_
    refine lv_iadd hx hb d_LA_law_284 ?_
    refine f_asi (nI_add (9 * n) 3) ?_
    refine f_ialdn (k := ((9 * n) + 3)) (v := u3) hx hb hI g_b hfb (by omega) (by omega) hu3 d_LA_law_285 ?_
    refine lv_i2l hx hb d_LA_law_286 rfl ?_
    refine lv_bipush (v := 32) hx hb d_LA_law_287 (by decide) ?_
    refine lv_lshl hx hb d_LA_law_289 rfl ?_
    refine lv_aload_n hx hb d_LA_law_290 rfl (lv_at hl 0 rfl) ?_
    refine lv_iload_n hx hb d_LA_law_291 rfl (lv_at hl 3 rfl) ?_
    refine lv_iconst (v := 4) hx hb d_LA_law_292 (by decide) ?_
    refine lv_iadd hx hb d_LA_law_293 ?_
    refine f_asi (nI_add (9 * n) 4) ?_
    refine f_ialdn (k := ((9 * n) + 4)) (v := u4) hx hb hI g_b hfb (by omega) (by omega) hu4 d_LA_law_294 ?_
    refine lv_i2l hx hb d_LA_law_295 rfl ?_
    refine lv_ldc2 (v := 4294967295) hx hb hown (hT _ w_1095) d_LA_law_296 ?_
    refine lv_land hx hb d_LA_law_299 ?_
    refine lv_lor hx hb d_LA_law_300 ?_
    refine f_asl hd3 ?_
    refine lv_aload_n hx hb d_LA_law_301 rfl (lv_at hl 0 rfl) ?_
    refine lv_iload_n hx hb d_LA_law_302 rfl (lv_at hl 3 rfl) ?_
    refine lv_iconst (v := 5) hx hb d_LA_law_303 (by decide) ?_
    refine lv_iadd hx hb d_LA_law_304 ?_
    refine f_asi (nI_add (9 * n) 5) ?_
    refine f_ialdn (k := ((9 * n) + 5)) (v := u5) hx hb hI g_b hfb (by omega) (by omega) hu5 d_LA_law_305 ?_
    refine lv_i2l hx hb d_LA_law_306 rfl ?_
    refine lv_bipush (v := 32) hx hb d_LA_law_307 (by decide) ?_
    refine lv_lshl hx hb d_LA_law_309 rfl ?_
    refine lv_aload_n hx hb d_LA_law_310 rfl (lv_at hl 0 rfl) ?_
    refine lv_iload_n hx hb d_LA_law_311 rfl (lv_at hl 3 rfl) ?_
    refine lv_bipush (v := 6) hx hb d_LA_law_312 (by decide) ?_
    refine lv_iadd hx hb d_LA_law_314 ?_
    refine f_asi (nI_add (9 * n) 6) ?_
    refine f_ialdn (k := ((9 * n) + 6)) (v := u6) hx hb hI g_b hfb (by omega) (by omega) hu6 d_LA_law_315 ?_
    refine lv_i2l hx hb d_LA_law_316 rfl ?_
    refine lv_ldc2 (v := 4294967295) hx hb hown (hT _ w_1095) d_LA_law_317 ?_
    refine lv_land hx hb d_LA_law_320 ?_
    refine lv_lor hx hb d_LA_law_321 ?_
    refine f_asl hd5 ?_
    refine lv_aload_n hx hb d_LA_law_322 rfl (lv_at hl 0 rfl) ?_
    refine lv_iload_n hx hb d_LA_law_323 rfl (lv_at hl 3 rfl) ?_
    refine lv_bipush (v := 7) hx hb d_LA_law_324 (by decide) ?_
    refine lv_iadd hx hb d_LA_law_326 ?_
    refine f_asi (nI_add (9 * n) 7) ?_
    refine f_ialdn (k := ((9 * n) + 7)) (v := u7) hx hb hI g_b hfb (by omega) (by omega) hu7 d_LA_law_327 ?_
    refine lv_i2l hx hb d_LA_law_328 rfl ?_
    refine lv_bipush (v := 32) hx hb d_LA_law_329 (by decide) ?_
    refine lv_lshl hx hb d_LA_law_331 rfl ?_
    refine lv_aload_n hx hb d_LA_law_332 rfl (lv_at hl 0 rfl) ?_
    refine lv_iload_n hx hb d_LA_law_333 rfl (lv_at hl 3 rfl) ?_
    refine lv_bipush (v := 8) hx hb d_LA_law_334 (by decide) ?_
    refine lv_iadd hx hb d_LA_law_336 ?_
    refine f_asi (nI_add (9 * n) 8) ?_
    refine f_ialdn (k := ((9 * n) + 8)) (v := u8) hx hb hI g_b hfb (by omega) (by omega) hu8 d_LA_law_337 ?_
    refine lv_i2l hx hb d_LA_law_338 rfl ?_
    refine lv_ldc2 (v := 4294967295) hx hb hown (hT _ w_1095) d_LA_law_339 ?_
    refine lv_land hx hb d_LA_law_342 ?_
    refine lv_lor hx hb d_LA_law_343 ?_
    refine f_asl hd7 ?_
    refine f_calli hI (f_runV C hI (c_MO_fact_no l G h1 _ M u1 u2 d3 d5 d7 mf g_M nf fl fk fd fw fv hFf hbad) gm_MO_fact w_992 w_993 w_991 g_M rfl rfl rfl hl.1 rfl (Nat.le_of_ble_eq_true rfl) ⟨Nat.le_of_ble_eq_true rfl, Nat.le_of_ble_eq_true rfl⟩ d_LA_law_344 ⟨by show _ ≤ 600000; (try dsimp only); omega, by show _ ≤ 7302250; (try dsimp only); omega⟩) (fun r_2 h8 H9 locs hp9 hX9 hz9 hI => ?_)
    obtain ⟨rfl, e9⟩ := hp9
    rw [e9] at hI
    clear hX9 e9
    refine lv_icmp_eq (tgt := 859) hx hb d_LA_law_347 (by decide) (fun c_3 => ?_) (fun c_3 => absurd rfl c_3)
    refine K _ _ _ _ _ (by (try dsimp only); omega) (by (try dsimp only); omega) ⟨tn, tx, ne, ef, rr, rm, nf, la, fl, fk, fd, fw, fv, sL, sR, Ls, th, du, wr, rn, rl, rD, rM, L9, hr, hc, hp⟩ hX hI ls ?_
    exact lv_sub hl [0, 1, 2, 3] rfl
  · obtain ⟨lo, blo, hlo⟩ := rng_of (N := 30) (k := 30) (by decide) rfl (fun q => hb1 (Or.inl q))
    obtain ⟨ki, bki, hki⟩ := rng_of (N := 6) (k := 6) (by decide) rfl (fun q => hb1 (Or.inr (Or.inl q)))
    obtain ⟨dd, bd, hdd⟩ := day_of (fun q => hb1 (Or.inr (Or.inr (Or.inl q))))
    subst hlo hki hdd
    have be1 : ¬ d7 < 1 := fun q => hb1 (Or.inr (Or.inr (Or.inr (Or.inl q))))
    have be2 : ¬ 100 < d7 := fun q => hb1 (Or.inr (Or.inr (Or.inr (Or.inr (Or.inl q)))))
    have hre : d5 - d5 / d7 * d7 = 0 := Classical.byContradiction (fun q => hb1 (Or.inr (Or.inr (Or.inr (Or.inr (Or.inr q))))))
    have hML := most_l bki
    by_cases hb2 : d5 / d7 < 0 ∨ lN (mostN ki) < d5 / d7
    · have hbad : (nI lo < 0 ∨ 30 ≤ nI lo) ∨ nI ki < 0 ∨ 6 ≤ nI ki ∨ (lN dd < 0 ∨ 100000 < lN dd) ∨ d7 < 1 ∨ 100 < d7 ∨ ¬ d5 - d5 / d7 * d7 = 0 ∨ d5 / d7 < 0 ∨ (if nI ki = 0 then (9 : Int64) else (if nI ki = 1 then 10000 else (if nI ki = 3 then 100000000 else 1000000))) < d5 / d7 ∨ nf = 300 := by rw [hML]; rcases hb2 with q | q <;> simp [q]
      refine lv_aload_n hx hb d_LA_law_193 rfl (lv_at hl 1 rfl) ?_
      refine lv_aload_n hx hb d_LA_law_194 rfl (lv_at hl 0 rfl) ?_
      refine lv_iload_n hx hb d_LA_law_195 rfl (lv_at hl 3 rfl) ?_
      refine lv_iconst (v := 1) hx hb d_LA_law_196 (by decide) ?_
      refine lv_iadd hx hb d_LA_law_197 ?_
      refine f_asi (nI_add (9 * n) 1) ?_
      refine f_ialdn (k := ((9 * n) + 1)) (v := (nI lo)) hx hb hI g_b hfb (by omega) (by omega) hu1 d_LA_law_198 ?_
      refine lv_aload_n hx hb d_LA_law_199 rfl (lv_at hl 0 rfl) ?_
      refine lv_iload_n hx hb d_LA_law_200 rfl (lv_at hl 3 rfl) ?_
      refine lv_iconst (v := 2) hx hb d_LA_law_201 (by decide) ?_
      refine lv_iadd hx hb d_LA_law_202 ?_
      refine f_asi (nI_add (9 * n) 2) ?_
      refine f_ialdn (k := ((9 * n) + 2)) (v := (nI ki)) hx hb hI g_b hfb (by omega) (by omega) hu2 d_LA_law_203 ?_
      refine lv_aload_n hx hb d_LA_law_204 rfl (lv_at hl 0 rfl) ?_
      refine lv_iload_n hx hb d_LA_law_205 rfl (lv_at hl 3 rfl) ?_
      refine lv_iconst (v := 3) hx hb d_LA_law_206 (by decide) ?_
      refine lv_iadd hx hb d_LA_law_207 ?_
      refine f_asi (nI_add (9 * n) 3) ?_
      refine f_ialdn (k := ((9 * n) + 3)) (v := u3) hx hb hI g_b hfb (by omega) (by omega) hu3 d_LA_law_208 ?_
      refine lv_i2l hx hb d_LA_law_209 rfl ?_
      refine lv_bipush (v := 32) hx hb d_LA_law_210 (by decide) ?_
      refine lv_lshl hx hb d_LA_law_212 rfl ?_
      refine lv_aload_n hx hb d_LA_law_213 rfl (lv_at hl 0 rfl) ?_
      refine lv_iload_n hx hb d_LA_law_214 rfl (lv_at hl 3 rfl) ?_
      refine lv_iconst (v := 4) hx hb d_LA_law_215 (by decide) ?_
      refine lv_iadd hx hb d_LA_law_216 ?_
      refine f_asi (nI_add (9 * n) 4) ?_
      refine f_ialdn (k := ((9 * n) + 4)) (v := u4) hx hb hI g_b hfb (by omega) (by omega) hu4 d_LA_law_217 ?_
      refine lv_i2l hx hb d_LA_law_218 rfl ?_
      refine lv_ldc2 (v := 4294967295) hx hb hown (hT _ w_1095) d_LA_law_219 ?_
      refine lv_land hx hb d_LA_law_222 ?_
      refine lv_lor hx hb d_LA_law_223 ?_
      refine f_asl hd3 ?_
      refine lv_aload_n hx hb d_LA_law_224 rfl (lv_at hl 0 rfl) ?_
      refine lv_iload_n hx hb d_LA_law_225 rfl (lv_at hl 3 rfl) ?_
      refine lv_iconst (v := 5) hx hb d_LA_law_226 (by decide) ?_
      refine lv_iadd hx hb d_LA_law_227 ?_
      refine f_asi (nI_add (9 * n) 5) ?_
      refine f_ialdn (k := ((9 * n) + 5)) (v := u5) hx hb hI g_b hfb (by omega) (by omega) hu5 d_LA_law_228 ?_
      refine lv_i2l hx hb d_LA_law_229 rfl ?_
      refine lv_bipush (v := 32) hx hb d_LA_law_230 (by decide) ?_
      refine lv_lshl hx hb d_LA_law_232 rfl ?_
      refine lv_aload_n hx hb d_LA_law_233 rfl (lv_at hl 0 rfl) ?_
      refine lv_iload_n hx hb d_LA_law_234 rfl (lv_at hl 3 rfl) ?_
      refine lv_bipush (v := 6) hx hb d_LA_law_235 (by decide) ?_
      refine lv_iadd hx hb d_LA_law_237 ?_
      refine f_asi (nI_add (9 * n) 6) ?_
      refine f_ialdn (k := ((9 * n) + 6)) (v := u6) hx hb hI g_b hfb (by omega) (by omega) hu6 d_LA_law_238 ?_
      refine lv_i2l hx hb d_LA_law_239 rfl ?_
      refine lv_ldc2 (v := 4294967295) hx hb hown (hT _ w_1095) d_LA_law_240 ?_
      refine lv_land hx hb d_LA_law_243 ?_
      refine lv_lor hx hb d_LA_law_244 ?_
      refine f_asl hd5 ?_
      refine lv_aload_n hx hb d_LA_law_245 rfl (lv_at hl 0 rfl) ?_
      refine lv_iload_n hx hb d_LA_law_246 rfl (lv_at hl 3 rfl) ?_
      refine lv_bipush (v := 7) hx hb d_LA_law_247 (by decide) ?_
      refine lv_iadd hx hb d_LA_law_249 ?_
      refine f_asi (nI_add (9 * n) 7) ?_
      refine f_ialdn (k := ((9 * n) + 7)) (v := u7) hx hb hI g_b hfb (by omega) (by omega) hu7 d_LA_law_250 ?_
      refine lv_i2l hx hb d_LA_law_251 rfl ?_
      refine lv_bipush (v := 32) hx hb d_LA_law_252 (by decide) ?_
      refine lv_lshl hx hb d_LA_law_254 rfl ?_
      refine lv_aload_n hx hb d_LA_law_255 rfl (lv_at hl 0 rfl) ?_
      refine lv_iload_n hx hb d_LA_law_256 rfl (lv_at hl 3 rfl) ?_
      refine lv_bipush (v := 8) hx hb d_LA_law_257 (by decide) ?_
      refine lv_iadd hx hb d_LA_law_259 ?_
      refine f_asi (nI_add (9 * n) 8) ?_
      refine f_ialdn (k := ((9 * n) + 8)) (v := u8) hx hb hI g_b hfb (by omega) (by omega) hu8 d_LA_law_260 ?_
      refine lv_i2l hx hb d_LA_law_261 rfl ?_
      refine lv_ldc2 (v := 4294967295) hx hb hown (hT _ w_1095) d_LA_law_262 ?_
      refine lv_land hx hb d_LA_law_265 ?_
      refine lv_lor hx hb d_LA_law_266 ?_
      refine f_asl hd7 ?_
      refine f_calli hI (f_runV C hI (c_DR_fact_b l G h1 _ X T E F D I R Wr wa nr lr g_X lo ki dd d5 d7 blo bki bd be1 be2 hre hb2) gm_DR_fact w_555 w_556 w_554 g_X rfl rfl rfl hl.1 rfl (Nat.le_of_ble_eq_true rfl) ⟨Nat.le_of_ble_eq_true rfl, Nat.le_of_ble_eq_true rfl⟩ d_LA_law_267 ⟨by show _ ≤ 600000; (try dsimp only); omega, by show _ ≤ 7302250; (try dsimp only); omega⟩) (fun r_4 h8 H9 locs hp9 hX9 hz9 hI => ?_)
      obtain ⟨rfl, e9⟩ := hp9
      rw [e9] at hI
      clear hX9 e9
      refine lv_aload_n hx hb d_LA_law_270 rfl (lv_at hl 2 rfl) ?_
      refine lv_aload_n hx hb d_LA_law_271 rfl (lv_at hl 0 rfl) ?_
      refine lv_iload_n hx hb d_LA_law_272 rfl (lv_at hl 3 rfl) ?_
      refine lv_iconst (v := 1) hx hb d_LA_law_273 (by decide) ?_
      refine lv_iadd hx hb d_LA_law_274 ?_
      refine f_asi (nI_add (9 * n) 1) ?_
      refine f_ialdn (k := ((9 * n) + 1)) (v := (nI lo)) hx hb hI g_b hfb (by omega) (by omega) hu1 d_LA_law_275 ?_
      refine lv_aload_n hx hb d_LA_law_276 rfl (lv_at hl 0 rfl) ?_
      refine lv_iload_n hx hb d_LA_law_277 rfl (lv_at hl 3 rfl) ?_
      refine lv_iconst (v := 2) hx hb d_LA_law_278 (by decide) ?_
      refine lv_iadd hx hb d_LA_law_279 ?_
      refine f_asi (nI_add (9 * n) 2) ?_
      refine f_ialdn (k := ((9 * n) + 2)) (v := (nI ki)) hx hb hI g_b hfb (by omega) (by omega) hu2 d_LA_law_280 ?_
      refine lv_aload_n hx hb d_LA_law_281 rfl (lv_at hl 0 rfl) ?_
      refine lv_iload_n hx hb d_LA_law_282 rfl (lv_at hl 3 rfl) ?_
      refine lv_iconst (v := 3) hx hb d_LA_law_283 (by decide) ?_
      refine lv_iadd hx hb d_LA_law_284 ?_
      refine f_asi (nI_add (9 * n) 3) ?_
      refine f_ialdn (k := ((9 * n) + 3)) (v := u3) hx hb hI g_b hfb (by omega) (by omega) hu3 d_LA_law_285 ?_
      refine lv_i2l hx hb d_LA_law_286 rfl ?_
      refine lv_bipush (v := 32) hx hb d_LA_law_287 (by decide) ?_
      refine lv_lshl hx hb d_LA_law_289 rfl ?_
      refine lv_aload_n hx hb d_LA_law_290 rfl (lv_at hl 0 rfl) ?_
      refine lv_iload_n hx hb d_LA_law_291 rfl (lv_at hl 3 rfl) ?_
      refine lv_iconst (v := 4) hx hb d_LA_law_292 (by decide) ?_
      refine lv_iadd hx hb d_LA_law_293 ?_
      refine f_asi (nI_add (9 * n) 4) ?_
      refine f_ialdn (k := ((9 * n) + 4)) (v := u4) hx hb hI g_b hfb (by omega) (by omega) hu4 d_LA_law_294 ?_
      refine lv_i2l hx hb d_LA_law_295 rfl ?_
      refine lv_ldc2 (v := 4294967295) hx hb hown (hT _ w_1095) d_LA_law_296 ?_
      refine lv_land hx hb d_LA_law_299 ?_
      refine lv_lor hx hb d_LA_law_300 ?_
      refine f_asl hd3 ?_
      refine lv_aload_n hx hb d_LA_law_301 rfl (lv_at hl 0 rfl) ?_
      refine lv_iload_n hx hb d_LA_law_302 rfl (lv_at hl 3 rfl) ?_
      refine lv_iconst (v := 5) hx hb d_LA_law_303 (by decide) ?_
      refine lv_iadd hx hb d_LA_law_304 ?_
      refine f_asi (nI_add (9 * n) 5) ?_
      refine f_ialdn (k := ((9 * n) + 5)) (v := u5) hx hb hI g_b hfb (by omega) (by omega) hu5 d_LA_law_305 ?_
      refine lv_i2l hx hb d_LA_law_306 rfl ?_
      refine lv_bipush (v := 32) hx hb d_LA_law_307 (by decide) ?_
      refine lv_lshl hx hb d_LA_law_309 rfl ?_
      refine lv_aload_n hx hb d_LA_law_310 rfl (lv_at hl 0 rfl) ?_
      refine lv_iload_n hx hb d_LA_law_311 rfl (lv_at hl 3 rfl) ?_
      refine lv_bipush (v := 6) hx hb d_LA_law_312 (by decide) ?_
      refine lv_iadd hx hb d_LA_law_314 ?_
      refine f_asi (nI_add (9 * n) 6) ?_
      refine f_ialdn (k := ((9 * n) + 6)) (v := u6) hx hb hI g_b hfb (by omega) (by omega) hu6 d_LA_law_315 ?_
      refine lv_i2l hx hb d_LA_law_316 rfl ?_
      refine lv_ldc2 (v := 4294967295) hx hb hown (hT _ w_1095) d_LA_law_317 ?_
      refine lv_land hx hb d_LA_law_320 ?_
      refine lv_lor hx hb d_LA_law_321 ?_
      refine f_asl hd5 ?_
      refine lv_aload_n hx hb d_LA_law_322 rfl (lv_at hl 0 rfl) ?_
      refine lv_iload_n hx hb d_LA_law_323 rfl (lv_at hl 3 rfl) ?_
      refine lv_bipush (v := 7) hx hb d_LA_law_324 (by decide) ?_
      refine lv_iadd hx hb d_LA_law_326 ?_
      refine f_asi (nI_add (9 * n) 7) ?_
      refine f_ialdn (k := ((9 * n) + 7)) (v := u7) hx hb hI g_b hfb (by omega) (by omega) hu7 d_LA_law_327 ?_
      refine lv_i2l hx hb d_LA_law_328 rfl ?_
      refine lv_bipush (v := 32) hx hb d_LA_law_329 (by decide) ?_
      refine lv_lshl hx hb d_LA_law_331 rfl ?_
      refine lv_aload_n hx hb d_LA_law_332 rfl (lv_at hl 0 rfl) ?_
      refine lv_iload_n hx hb d_LA_law_333 rfl (lv_at hl 3 rfl) ?_
      refine lv_bipush (v := 8) hx hb d_LA_law_334 (by decide) ?_
      refine lv_iadd hx hb d_LA_law_336 ?_
      refine f_asi (nI_add (9 * n) 8) ?_
      refine f_ialdn (k := ((9 * n) + 8)) (v := u8) hx hb hI g_b hfb (by omega) (by omega) hu8 d_LA_law_337 ?_
      refine lv_i2l hx hb d_LA_law_338 rfl ?_
      refine lv_ldc2 (v := 4294967295) hx hb hown (hT _ w_1095) d_LA_law_339 ?_
      refine lv_land hx hb d_LA_law_342 ?_
      refine lv_lor hx hb d_LA_law_343 ?_
      refine f_asl hd7 ?_
      refine f_calli hI (f_runV C hI (c_MO_fact_no l G h1 _ M (nI lo) (nI ki) (lN dd) d5 d7 mf g_M nf fl fk fd fw fv hFf hbad) gm_MO_fact w_992 w_993 w_991 g_M rfl rfl rfl hl.1 rfl (Nat.le_of_ble_eq_true rfl) ⟨Nat.le_of_ble_eq_true rfl, Nat.le_of_ble_eq_true rfl⟩ d_LA_law_344 ⟨by show _ ≤ 600000; (try dsimp only); omega, by show _ ≤ 7302250; (try dsimp only); omega⟩) (fun r_5 h8 H9 locs hp9 hX9 hz9 hI => ?_)
      obtain ⟨rfl, e9⟩ := hp9
      rw [e9] at hI
      clear hX9 e9
      refine lv_icmp_eq (tgt := 859) hx hb d_LA_law_347 (by decide) (fun c_6 => ?_) (fun c_6 => absurd rfl c_6)
      refine K _ _ _ _ _ (by (try dsimp only); omega) (by (try dsimp only); omega) ⟨tn, tx, ne, ef, rr, rm, nf, la, fl, fk, fd, fw, fv, sL, sR, Ls, th, du, wr, rn, rl, rD, rM, L9, hr, hc, hp⟩ hX hI ls ?_
      exact lv_sub hl [0, 1, 2, 3] rfl
    · obtain ⟨v, bv, hq9⟩ := val_of (mostN_le ki) hb2
      have bnf : nf ≤ 300 := hC.2.2.2.2.1
      by_cases hful : nf = 300
      · have hbad : (nI lo < 0 ∨ 30 ≤ nI lo) ∨ nI ki < 0 ∨ 6 ≤ nI ki ∨ (lN dd < 0 ∨ 100000 < lN dd) ∨ d7 < 1 ∨ 100 < d7 ∨ ¬ d5 - d5 / d7 * d7 = 0 ∨ d5 / d7 < 0 ∨ (if nI ki = 0 then (9 : Int64) else (if nI ki = 1 then 10000 else (if nI ki = 3 then 100000000 else 1000000))) < d5 / d7 ∨ nf = 300 := by simp [hful]
        refine lv_aload_n hx hb d_LA_law_193 rfl (lv_at hl 1 rfl) ?_
        refine lv_aload_n hx hb d_LA_law_194 rfl (lv_at hl 0 rfl) ?_
        refine lv_iload_n hx hb d_LA_law_195 rfl (lv_at hl 3 rfl) ?_
        refine lv_iconst (v := 1) hx hb d_LA_law_196 (by decide) ?_
        refine lv_iadd hx hb d_LA_law_197 ?_
        refine f_asi (nI_add (9 * n) 1) ?_
        refine f_ialdn (k := ((9 * n) + 1)) (v := (nI lo)) hx hb hI g_b hfb (by omega) (by omega) hu1 d_LA_law_198 ?_
        refine lv_aload_n hx hb d_LA_law_199 rfl (lv_at hl 0 rfl) ?_
        refine lv_iload_n hx hb d_LA_law_200 rfl (lv_at hl 3 rfl) ?_
        refine lv_iconst (v := 2) hx hb d_LA_law_201 (by decide) ?_
        refine lv_iadd hx hb d_LA_law_202 ?_
        refine f_asi (nI_add (9 * n) 2) ?_
        refine f_ialdn (k := ((9 * n) + 2)) (v := (nI ki)) hx hb hI g_b hfb (by omega) (by omega) hu2 d_LA_law_203 ?_
        refine lv_aload_n hx hb d_LA_law_204 rfl (lv_at hl 0 rfl) ?_
        refine lv_iload_n hx hb d_LA_law_205 rfl (lv_at hl 3 rfl) ?_
        refine lv_iconst (v := 3) hx hb d_LA_law_206 (by decide) ?_
        refine lv_iadd hx hb d_LA_law_207 ?_
        refine f_asi (nI_add (9 * n) 3) ?_
        refine f_ialdn (k := ((9 * n) + 3)) (v := u3) hx hb hI g_b hfb (by omega) (by omega) hu3 d_LA_law_208 ?_
        refine lv_i2l hx hb d_LA_law_209 rfl ?_
        refine lv_bipush (v := 32) hx hb d_LA_law_210 (by decide) ?_
        refine lv_lshl hx hb d_LA_law_212 rfl ?_
        refine lv_aload_n hx hb d_LA_law_213 rfl (lv_at hl 0 rfl) ?_
        refine lv_iload_n hx hb d_LA_law_214 rfl (lv_at hl 3 rfl) ?_
        refine lv_iconst (v := 4) hx hb d_LA_law_215 (by decide) ?_
        refine lv_iadd hx hb d_LA_law_216 ?_
        refine f_asi (nI_add (9 * n) 4) ?_
        refine f_ialdn (k := ((9 * n) + 4)) (v := u4) hx hb hI g_b hfb (by omega) (by omega) hu4 d_LA_law_217 ?_
        refine lv_i2l hx hb d_LA_law_218 rfl ?_
        refine lv_ldc2 (v := 4294967295) hx hb hown (hT _ w_1095) d_LA_law_219 ?_
        refine lv_land hx hb d_LA_law_222 ?_
        refine lv_lor hx hb d_LA_law_223 ?_
        refine f_asl hd3 ?_
        refine lv_aload_n hx hb d_LA_law_224 rfl (lv_at hl 0 rfl) ?_
        refine lv_iload_n hx hb d_LA_law_225 rfl (lv_at hl 3 rfl) ?_
        refine lv_iconst (v := 5) hx hb d_LA_law_226 (by decide) ?_
        refine lv_iadd hx hb d_LA_law_227 ?_
        refine f_asi (nI_add (9 * n) 5) ?_
        refine f_ialdn (k := ((9 * n) + 5)) (v := u5) hx hb hI g_b hfb (by omega) (by omega) hu5 d_LA_law_228 ?_
        refine lv_i2l hx hb d_LA_law_229 rfl ?_
        refine lv_bipush (v := 32) hx hb d_LA_law_230 (by decide) ?_
        refine lv_lshl hx hb d_LA_law_232 rfl ?_
        refine lv_aload_n hx hb d_LA_law_233 rfl (lv_at hl 0 rfl) ?_
        refine lv_iload_n hx hb d_LA_law_234 rfl (lv_at hl 3 rfl) ?_
        refine lv_bipush (v := 6) hx hb d_LA_law_235 (by decide) ?_
        refine lv_iadd hx hb d_LA_law_237 ?_
        refine f_asi (nI_add (9 * n) 6) ?_
        refine f_ialdn (k := ((9 * n) + 6)) (v := u6) hx hb hI g_b hfb (by omega) (by omega) hu6 d_LA_law_238 ?_
        refine lv_i2l hx hb d_LA_law_239 rfl ?_
        refine lv_ldc2 (v := 4294967295) hx hb hown (hT _ w_1095) d_LA_law_240 ?_
        refine lv_land hx hb d_LA_law_243 ?_
        refine lv_lor hx hb d_LA_law_244 ?_
        refine f_asl hd5 ?_
        refine lv_aload_n hx hb d_LA_law_245 rfl (lv_at hl 0 rfl) ?_
        refine lv_iload_n hx hb d_LA_law_246 rfl (lv_at hl 3 rfl) ?_
        refine lv_bipush (v := 7) hx hb d_LA_law_247 (by decide) ?_
        refine lv_iadd hx hb d_LA_law_249 ?_
        refine f_asi (nI_add (9 * n) 7) ?_
        refine f_ialdn (k := ((9 * n) + 7)) (v := u7) hx hb hI g_b hfb (by omega) (by omega) hu7 d_LA_law_250 ?_
        refine lv_i2l hx hb d_LA_law_251 rfl ?_
        refine lv_bipush (v := 32) hx hb d_LA_law_252 (by decide) ?_
        refine lv_lshl hx hb d_LA_law_254 rfl ?_
        refine lv_aload_n hx hb d_LA_law_255 rfl (lv_at hl 0 rfl) ?_
        refine lv_iload_n hx hb d_LA_law_256 rfl (lv_at hl 3 rfl) ?_
        refine lv_bipush (v := 8) hx hb d_LA_law_257 (by decide) ?_
        refine lv_iadd hx hb d_LA_law_259 ?_
        refine f_asi (nI_add (9 * n) 8) ?_
        refine f_ialdn (k := ((9 * n) + 8)) (v := u8) hx hb hI g_b hfb (by omega) (by omega) hu8 d_LA_law_260 ?_
        refine lv_i2l hx hb d_LA_law_261 rfl ?_
        refine lv_ldc2 (v := 4294967295) hx hb hown (hT _ w_1095) d_LA_law_262 ?_
        refine lv_land hx hb d_LA_law_265 ?_
        refine lv_lor hx hb d_LA_law_266 ?_
        refine f_asl hd7 ?_
        refine f_calli hI (f_runV C hI (c_DR_fact_full l G h1 _ X T E F D I R Wr wa nr lr g_X A fa gq nf la fl fk fd fw fv hC lo ki dd d5 d7 blo bki bd be1 be2 hre v hq9 bv hful) gm_DR_fact w_555 w_556 w_554 g_X rfl rfl rfl hl.1 rfl (Nat.le_of_ble_eq_true rfl) ⟨Nat.le_of_ble_eq_true rfl, Nat.le_of_ble_eq_true rfl⟩ d_LA_law_267 ⟨by show _ ≤ 600000; (try dsimp only); omega, by show _ ≤ 7302250; (try dsimp only); omega⟩) (fun r_7 h8 H9 locs hp9 hX9 hz9 hI => ?_)
        obtain ⟨rfl, e9⟩ := hp9
        rw [e9] at hI
        clear hX9 e9
        refine lv_aload_n hx hb d_LA_law_270 rfl (lv_at hl 2 rfl) ?_
        refine lv_aload_n hx hb d_LA_law_271 rfl (lv_at hl 0 rfl) ?_
        refine lv_iload_n hx hb d_LA_law_272 rfl (lv_at hl 3 rfl) ?_
        refine lv_iconst (v := 1) hx hb d_LA_law_273 (by decide) ?_
        refine lv_iadd hx hb d_LA_law_274 ?_
        refine f_asi (nI_add (9 * n) 1) ?_
        refine f_ialdn (k := ((9 * n) + 1)) (v := (nI lo)) hx hb hI g_b hfb (by omega) (by omega) hu1 d_LA_law_275 ?_
        refine lv_aload_n hx hb d_LA_law_276 rfl (lv_at hl 0 rfl) ?_
        refine lv_iload_n hx hb d_LA_law_277 rfl (lv_at hl 3 rfl) ?_
        refine lv_iconst (v := 2) hx hb d_LA_law_278 (by decide) ?_
        refine lv_iadd hx hb d_LA_law_279 ?_
        refine f_asi (nI_add (9 * n) 2) ?_
        refine f_ialdn (k := ((9 * n) + 2)) (v := (nI ki)) hx hb hI g_b hfb (by omega) (by omega) hu2 d_LA_law_280 ?_
        refine lv_aload_n hx hb d_LA_law_281 rfl (lv_at hl 0 rfl) ?_
        refine lv_iload_n hx hb d_LA_law_282 rfl (lv_at hl 3 rfl) ?_
        refine lv_iconst (v := 3) hx hb d_LA_law_283 (by decide) ?_
        refine lv_iadd hx hb d_LA_law_284 ?_
        refine f_asi (nI_add (9 * n) 3) ?_
        refine f_ialdn (k := ((9 * n) + 3)) (v := u3) hx hb hI g_b hfb (by omega) (by omega) hu3 d_LA_law_285 ?_
        refine lv_i2l hx hb d_LA_law_286 rfl ?_
        refine lv_bipush (v := 32) hx hb d_LA_law_287 (by decide) ?_
        refine lv_lshl hx hb d_LA_law_289 rfl ?_
        refine lv_aload_n hx hb d_LA_law_290 rfl (lv_at hl 0 rfl) ?_
        refine lv_iload_n hx hb d_LA_law_291 rfl (lv_at hl 3 rfl) ?_
        refine lv_iconst (v := 4) hx hb d_LA_law_292 (by decide) ?_
        refine lv_iadd hx hb d_LA_law_293 ?_
        refine f_asi (nI_add (9 * n) 4) ?_
        refine f_ialdn (k := ((9 * n) + 4)) (v := u4) hx hb hI g_b hfb (by omega) (by omega) hu4 d_LA_law_294 ?_
        refine lv_i2l hx hb d_LA_law_295 rfl ?_
        refine lv_ldc2 (v := 4294967295) hx hb hown (hT _ w_1095) d_LA_law_296 ?_
        refine lv_land hx hb d_LA_law_299 ?_
        refine lv_lor hx hb d_LA_law_300 ?_
        refine f_asl hd3 ?_
        refine lv_aload_n hx hb d_LA_law_301 rfl (lv_at hl 0 rfl) ?_
        refine lv_iload_n hx hb d_LA_law_302 rfl (lv_at hl 3 rfl) ?_
        refine lv_iconst (v := 5) hx hb d_LA_law_303 (by decide) ?_
        refine lv_iadd hx hb d_LA_law_304 ?_
        refine f_asi (nI_add (9 * n) 5) ?_
        refine f_ialdn (k := ((9 * n) + 5)) (v := u5) hx hb hI g_b hfb (by omega) (by omega) hu5 d_LA_law_305 ?_
        refine lv_i2l hx hb d_LA_law_306 rfl ?_
        refine lv_bipush (v := 32) hx hb d_LA_law_307 (by decide) ?_
        refine lv_lshl hx hb d_LA_law_309 rfl ?_
        refine lv_aload_n hx hb d_LA_law_310 rfl (lv_at hl 0 rfl) ?_
        refine lv_iload_n hx hb d_LA_law_311 rfl (lv_at hl 3 rfl) ?_
        refine lv_bipush (v := 6) hx hb d_LA_law_312 (by decide) ?_
        refine lv_iadd hx hb d_LA_law_314 ?_
        refine f_asi (nI_add (9 * n) 6) ?_
        refine f_ialdn (k := ((9 * n) + 6)) (v := u6) hx hb hI g_b hfb (by omega) (by omega) hu6 d_LA_law_315 ?_
        refine lv_i2l hx hb d_LA_law_316 rfl ?_
        refine lv_ldc2 (v := 4294967295) hx hb hown (hT _ w_1095) d_LA_law_317 ?_
        refine lv_land hx hb d_LA_law_320 ?_
        refine lv_lor hx hb d_LA_law_321 ?_
        refine f_asl hd5 ?_
        refine lv_aload_n hx hb d_LA_law_322 rfl (lv_at hl 0 rfl) ?_
        refine lv_iload_n hx hb d_LA_law_323 rfl (lv_at hl 3 rfl) ?_
        refine lv_bipush (v := 7) hx hb d_LA_law_324 (by decide) ?_
        refine lv_iadd hx hb d_LA_law_326 ?_
        refine f_asi (nI_add (9 * n) 7) ?_
        refine f_ialdn (k := ((9 * n) + 7)) (v := u7) hx hb hI g_b hfb (by omega) (by omega) hu7 d_LA_law_327 ?_
        refine lv_i2l hx hb d_LA_law_328 rfl ?_
        refine lv_bipush (v := 32) hx hb d_LA_law_329 (by decide) ?_
        refine lv_lshl hx hb d_LA_law_331 rfl ?_
        refine lv_aload_n hx hb d_LA_law_332 rfl (lv_at hl 0 rfl) ?_
        refine lv_iload_n hx hb d_LA_law_333 rfl (lv_at hl 3 rfl) ?_
        refine lv_bipush (v := 8) hx hb d_LA_law_334 (by decide) ?_
        refine lv_iadd hx hb d_LA_law_336 ?_
        refine f_asi (nI_add (9 * n) 8) ?_
        refine f_ialdn (k := ((9 * n) + 8)) (v := u8) hx hb hI g_b hfb (by omega) (by omega) hu8 d_LA_law_337 ?_
        refine lv_i2l hx hb d_LA_law_338 rfl ?_
        refine lv_ldc2 (v := 4294967295) hx hb hown (hT _ w_1095) d_LA_law_339 ?_
        refine lv_land hx hb d_LA_law_342 ?_
        refine lv_lor hx hb d_LA_law_343 ?_
        refine f_asl hd7 ?_
        refine f_calli hI (f_runV C hI (c_MO_fact_no l G h1 _ M (nI lo) (nI ki) (lN dd) d5 d7 mf g_M nf fl fk fd fw fv hFf hbad) gm_MO_fact w_992 w_993 w_991 g_M rfl rfl rfl hl.1 rfl (Nat.le_of_ble_eq_true rfl) ⟨Nat.le_of_ble_eq_true rfl, Nat.le_of_ble_eq_true rfl⟩ d_LA_law_344 ⟨by show _ ≤ 600000; (try dsimp only); omega, by show _ ≤ 7302250; (try dsimp only); omega⟩) (fun r_8 h8 H9 locs hp9 hX9 hz9 hI => ?_)
        obtain ⟨rfl, e9⟩ := hp9
        rw [e9] at hI
        clear hX9 e9
        refine lv_icmp_eq (tgt := 859) hx hb d_LA_law_347 (by decide) (fun c_9 => ?_) (fun c_9 => absurd rfl c_9)
        refine K _ _ _ _ _ (by (try dsimp only); omega) (by (try dsimp only); omega) ⟨tn, tx, ne, ef, rr, rm, nf, la, fl, fk, fd, fw, fv, sL, sR, Ls, th, du, wr, rn, rl, rD, rM, L9, hr, hc, hp⟩ hX hI ls ?_
        exact lv_sub hl [0, 1, 2, 3] rfl
      · have bnf2 : nf < 300 := by omega
        refine lv_aload_n hx hb d_LA_law_193 rfl (lv_at hl 1 rfl) ?_
        refine lv_aload_n hx hb d_LA_law_194 rfl (lv_at hl 0 rfl) ?_
        refine lv_iload_n hx hb d_LA_law_195 rfl (lv_at hl 3 rfl) ?_
        refine lv_iconst (v := 1) hx hb d_LA_law_196 (by decide) ?_
        refine lv_iadd hx hb d_LA_law_197 ?_
        refine f_asi (nI_add (9 * n) 1) ?_
        refine f_ialdn (k := ((9 * n) + 1)) (v := (nI lo)) hx hb hI g_b hfb (by omega) (by omega) hu1 d_LA_law_198 ?_
        refine lv_aload_n hx hb d_LA_law_199 rfl (lv_at hl 0 rfl) ?_
        refine lv_iload_n hx hb d_LA_law_200 rfl (lv_at hl 3 rfl) ?_
        refine lv_iconst (v := 2) hx hb d_LA_law_201 (by decide) ?_
        refine lv_iadd hx hb d_LA_law_202 ?_
        refine f_asi (nI_add (9 * n) 2) ?_
        refine f_ialdn (k := ((9 * n) + 2)) (v := (nI ki)) hx hb hI g_b hfb (by omega) (by omega) hu2 d_LA_law_203 ?_
        refine lv_aload_n hx hb d_LA_law_204 rfl (lv_at hl 0 rfl) ?_
        refine lv_iload_n hx hb d_LA_law_205 rfl (lv_at hl 3 rfl) ?_
        refine lv_iconst (v := 3) hx hb d_LA_law_206 (by decide) ?_
        refine lv_iadd hx hb d_LA_law_207 ?_
        refine f_asi (nI_add (9 * n) 3) ?_
        refine f_ialdn (k := ((9 * n) + 3)) (v := u3) hx hb hI g_b hfb (by omega) (by omega) hu3 d_LA_law_208 ?_
        refine lv_i2l hx hb d_LA_law_209 rfl ?_
        refine lv_bipush (v := 32) hx hb d_LA_law_210 (by decide) ?_
        refine lv_lshl hx hb d_LA_law_212 rfl ?_
        refine lv_aload_n hx hb d_LA_law_213 rfl (lv_at hl 0 rfl) ?_
        refine lv_iload_n hx hb d_LA_law_214 rfl (lv_at hl 3 rfl) ?_
        refine lv_iconst (v := 4) hx hb d_LA_law_215 (by decide) ?_
        refine lv_iadd hx hb d_LA_law_216 ?_
        refine f_asi (nI_add (9 * n) 4) ?_
        refine f_ialdn (k := ((9 * n) + 4)) (v := u4) hx hb hI g_b hfb (by omega) (by omega) hu4 d_LA_law_217 ?_
        refine lv_i2l hx hb d_LA_law_218 rfl ?_
        refine lv_ldc2 (v := 4294967295) hx hb hown (hT _ w_1095) d_LA_law_219 ?_
        refine lv_land hx hb d_LA_law_222 ?_
        refine lv_lor hx hb d_LA_law_223 ?_
        refine f_asl hd3 ?_
        refine lv_aload_n hx hb d_LA_law_224 rfl (lv_at hl 0 rfl) ?_
        refine lv_iload_n hx hb d_LA_law_225 rfl (lv_at hl 3 rfl) ?_
        refine lv_iconst (v := 5) hx hb d_LA_law_226 (by decide) ?_
        refine lv_iadd hx hb d_LA_law_227 ?_
        refine f_asi (nI_add (9 * n) 5) ?_
        refine f_ialdn (k := ((9 * n) + 5)) (v := u5) hx hb hI g_b hfb (by omega) (by omega) hu5 d_LA_law_228 ?_
        refine lv_i2l hx hb d_LA_law_229 rfl ?_
        refine lv_bipush (v := 32) hx hb d_LA_law_230 (by decide) ?_
        refine lv_lshl hx hb d_LA_law_232 rfl ?_
        refine lv_aload_n hx hb d_LA_law_233 rfl (lv_at hl 0 rfl) ?_
        refine lv_iload_n hx hb d_LA_law_234 rfl (lv_at hl 3 rfl) ?_
        refine lv_bipush (v := 6) hx hb d_LA_law_235 (by decide) ?_
        refine lv_iadd hx hb d_LA_law_237 ?_
        refine f_asi (nI_add (9 * n) 6) ?_
        refine f_ialdn (k := ((9 * n) + 6)) (v := u6) hx hb hI g_b hfb (by omega) (by omega) hu6 d_LA_law_238 ?_
        refine lv_i2l hx hb d_LA_law_239 rfl ?_
        refine lv_ldc2 (v := 4294967295) hx hb hown (hT _ w_1095) d_LA_law_240 ?_
        refine lv_land hx hb d_LA_law_243 ?_
        refine lv_lor hx hb d_LA_law_244 ?_
        refine f_asl hd5 ?_
        refine lv_aload_n hx hb d_LA_law_245 rfl (lv_at hl 0 rfl) ?_
        refine lv_iload_n hx hb d_LA_law_246 rfl (lv_at hl 3 rfl) ?_
        refine lv_bipush (v := 7) hx hb d_LA_law_247 (by decide) ?_
        refine lv_iadd hx hb d_LA_law_249 ?_
        refine f_asi (nI_add (9 * n) 7) ?_
        refine f_ialdn (k := ((9 * n) + 7)) (v := u7) hx hb hI g_b hfb (by omega) (by omega) hu7 d_LA_law_250 ?_
        refine lv_i2l hx hb d_LA_law_251 rfl ?_
        refine lv_bipush (v := 32) hx hb d_LA_law_252 (by decide) ?_
        refine lv_lshl hx hb d_LA_law_254 rfl ?_
        refine lv_aload_n hx hb d_LA_law_255 rfl (lv_at hl 0 rfl) ?_
        refine lv_iload_n hx hb d_LA_law_256 rfl (lv_at hl 3 rfl) ?_
        refine lv_bipush (v := 8) hx hb d_LA_law_257 (by decide) ?_
        refine lv_iadd hx hb d_LA_law_259 ?_
        refine f_asi (nI_add (9 * n) 8) ?_
        refine f_ialdn (k := ((9 * n) + 8)) (v := u8) hx hb hI g_b hfb (by omega) (by omega) hu8 d_LA_law_260 ?_
        refine lv_i2l hx hb d_LA_law_261 rfl ?_
        refine lv_ldc2 (v := 4294967295) hx hb hown (hT _ w_1095) d_LA_law_262 ?_
        refine lv_land hx hb d_LA_law_265 ?_
        refine lv_lor hx hb d_LA_law_266 ?_
        refine f_asl hd7 ?_
        have hzA := hI.2.2.2.1
        refine f_calli hI (f_runV C hI (c_DR_fact_ok l G h1 _ X T E F D I R Wr wa nr lr g_X A fa gq nf la fl fk fd fw fv hC lo ki dd d5 d7 blo bki bd be1 be2 hre v hq9 bv bnf2) gm_DR_fact w_555 w_556 w_554 g_X rfl rfl rfl hl.1 rfl (Nat.le_of_ble_eq_true rfl) ⟨Nat.le_of_ble_eq_true rfl, Nat.le_of_ble_eq_true rfl⟩ d_LA_law_267 ⟨by show _ ≤ 600000; (try dsimp only); omega, by show _ ≤ 7302250; (try dsimp only); omega⟩) (fun r_10 h9 H9 locs hp9 hX9 hz9 hI => ?_)
        obtain ⟨rfl, q1, hC9, hF9⟩ := hp9
        have hX := fX.tr (Nat.le_trans (Nat.le_of_eq hsz.symm) hzA) hX hX9
        have hFc : fF (inR [10, 11, 12]) h1 h9 := hF9.mono (fun r9 o9 z => (by simp only [inR, inD, inXD, inRt, List.mem_cons, List.not_mem_nil, or_false] at z ⊢; omega : inR [10, 11, 12] r9 o9))
        have hr := hr.keep hFc (by decide)
        obtain ⟨mf, rg, g_M, hTx, hRd, hEm, hFf, v_13, hS0, hSh, hRt⟩ := id hr
        have hKc := hK0.keepX hX
        have g_b := hKc.2.2.2
        have hS8 := hS.keepF hFc (nr_1 hr12 (by decide)) (nr_2 hr12 (by decide))
        have hc9 : cAll G h9 X tn tx ne ef rr rm (nf + 1) (max la dd) (va_up fl nf lo) (va_up fk nf ki) (va_up fd nf dd) (va_up fw nf dd) (va_up fv nf v) sL sR Ls th du wr rn rl rD rM L9 := ⟨T, E, F, D, I, R, Wr, wa, nr, lr, mm, A, (va_up fa nf q1), (va_up gq (lo * 6 + ki) (some q1)), nn, pr, pm, chs, lt, rs, hv, d, r1, r2, o1, hFc _ _ _ _ g_X (by decide), ⟨hB.keepF hFc (by decide) (by decide), bmm⟩, hEd.keepF hFc (by decide), hcR.keepF hFc (by decide) (by decide) (by decide), hC9, ⟨hD.keepF hFc (fun r9 q1 q2 q => by simp only [inR, List.mem_cons, List.not_mem_nil, or_false] at q; omega), hsh⟩, hIn.keepG hFc (fun r9 q1 q2 q => by simp only [inR, List.mem_cons, List.not_mem_nil, or_false] at q; omega), ⟨hS8, hr12⟩, ⟨hCh.keepF hFc (fun r9 o9 q1 q2 q => by simp only [inR, List.mem_cons, List.not_mem_nil, or_false] at q; omega), hnr⟩, hlr, hwr⟩
        refine lv_aload_n hx hb d_LA_law_270 rfl (lv_at hl 2 rfl) ?_
        refine lv_aload_n hx hb d_LA_law_271 rfl (lv_at hl 0 rfl) ?_
        refine lv_iload_n hx hb d_LA_law_272 rfl (lv_at hl 3 rfl) ?_
        refine lv_iconst (v := 1) hx hb d_LA_law_273 (by decide) ?_
        refine lv_iadd hx hb d_LA_law_274 ?_
        refine f_asi (nI_add (9 * n) 1) ?_
        refine f_ialdn (k := ((9 * n) + 1)) (v := (nI lo)) hx hb hI g_b hfb (by omega) (by omega) hu1 d_LA_law_275 ?_
        refine lv_aload_n hx hb d_LA_law_276 rfl (lv_at hl 0 rfl) ?_
        refine lv_iload_n hx hb d_LA_law_277 rfl (lv_at hl 3 rfl) ?_
        refine lv_iconst (v := 2) hx hb d_LA_law_278 (by decide) ?_
        refine lv_iadd hx hb d_LA_law_279 ?_
        refine f_asi (nI_add (9 * n) 2) ?_
        refine f_ialdn (k := ((9 * n) + 2)) (v := (nI ki)) hx hb hI g_b hfb (by omega) (by omega) hu2 d_LA_law_280 ?_
        refine lv_aload_n hx hb d_LA_law_281 rfl (lv_at hl 0 rfl) ?_
        refine lv_iload_n hx hb d_LA_law_282 rfl (lv_at hl 3 rfl) ?_
        refine lv_iconst (v := 3) hx hb d_LA_law_283 (by decide) ?_
        refine lv_iadd hx hb d_LA_law_284 ?_
        refine f_asi (nI_add (9 * n) 3) ?_
        refine f_ialdn (k := ((9 * n) + 3)) (v := u3) hx hb hI g_b hfb (by omega) (by omega) hu3 d_LA_law_285 ?_
        refine lv_i2l hx hb d_LA_law_286 rfl ?_
        refine lv_bipush (v := 32) hx hb d_LA_law_287 (by decide) ?_
        refine lv_lshl hx hb d_LA_law_289 rfl ?_
        refine lv_aload_n hx hb d_LA_law_290 rfl (lv_at hl 0 rfl) ?_
        refine lv_iload_n hx hb d_LA_law_291 rfl (lv_at hl 3 rfl) ?_
        refine lv_iconst (v := 4) hx hb d_LA_law_292 (by decide) ?_
        refine lv_iadd hx hb d_LA_law_293 ?_
        refine f_asi (nI_add (9 * n) 4) ?_
        refine f_ialdn (k := ((9 * n) + 4)) (v := u4) hx hb hI g_b hfb (by omega) (by omega) hu4 d_LA_law_294 ?_
        refine lv_i2l hx hb d_LA_law_295 rfl ?_
        refine lv_ldc2 (v := 4294967295) hx hb hown (hT _ w_1095) d_LA_law_296 ?_
        refine lv_land hx hb d_LA_law_299 ?_
        refine lv_lor hx hb d_LA_law_300 ?_
        refine f_asl hd3 ?_
        refine lv_aload_n hx hb d_LA_law_301 rfl (lv_at hl 0 rfl) ?_
        refine lv_iload_n hx hb d_LA_law_302 rfl (lv_at hl 3 rfl) ?_
        refine lv_iconst (v := 5) hx hb d_LA_law_303 (by decide) ?_
        refine lv_iadd hx hb d_LA_law_304 ?_
        refine f_asi (nI_add (9 * n) 5) ?_
        refine f_ialdn (k := ((9 * n) + 5)) (v := u5) hx hb hI g_b hfb (by omega) (by omega) hu5 d_LA_law_305 ?_
        refine lv_i2l hx hb d_LA_law_306 rfl ?_
        refine lv_bipush (v := 32) hx hb d_LA_law_307 (by decide) ?_
        refine lv_lshl hx hb d_LA_law_309 rfl ?_
        refine lv_aload_n hx hb d_LA_law_310 rfl (lv_at hl 0 rfl) ?_
        refine lv_iload_n hx hb d_LA_law_311 rfl (lv_at hl 3 rfl) ?_
        refine lv_bipush (v := 6) hx hb d_LA_law_312 (by decide) ?_
        refine lv_iadd hx hb d_LA_law_314 ?_
        refine f_asi (nI_add (9 * n) 6) ?_
        refine f_ialdn (k := ((9 * n) + 6)) (v := u6) hx hb hI g_b hfb (by omega) (by omega) hu6 d_LA_law_315 ?_
        refine lv_i2l hx hb d_LA_law_316 rfl ?_
        refine lv_ldc2 (v := 4294967295) hx hb hown (hT _ w_1095) d_LA_law_317 ?_
        refine lv_land hx hb d_LA_law_320 ?_
        refine lv_lor hx hb d_LA_law_321 ?_
        refine f_asl hd5 ?_
        refine lv_aload_n hx hb d_LA_law_322 rfl (lv_at hl 0 rfl) ?_
        refine lv_iload_n hx hb d_LA_law_323 rfl (lv_at hl 3 rfl) ?_
        refine lv_bipush (v := 7) hx hb d_LA_law_324 (by decide) ?_
        refine lv_iadd hx hb d_LA_law_326 ?_
        refine f_asi (nI_add (9 * n) 7) ?_
        refine f_ialdn (k := ((9 * n) + 7)) (v := u7) hx hb hI g_b hfb (by omega) (by omega) hu7 d_LA_law_327 ?_
        refine lv_i2l hx hb d_LA_law_328 rfl ?_
        refine lv_bipush (v := 32) hx hb d_LA_law_329 (by decide) ?_
        refine lv_lshl hx hb d_LA_law_331 rfl ?_
        refine lv_aload_n hx hb d_LA_law_332 rfl (lv_at hl 0 rfl) ?_
        refine lv_iload_n hx hb d_LA_law_333 rfl (lv_at hl 3 rfl) ?_
        refine lv_bipush (v := 8) hx hb d_LA_law_334 (by decide) ?_
        refine lv_iadd hx hb d_LA_law_336 ?_
        refine f_asi (nI_add (9 * n) 8) ?_
        refine f_ialdn (k := ((9 * n) + 8)) (v := u8) hx hb hI g_b hfb (by omega) (by omega) hu8 d_LA_law_337 ?_
        refine lv_i2l hx hb d_LA_law_338 rfl ?_
        refine lv_ldc2 (v := 4294967295) hx hb hown (hT _ w_1095) d_LA_law_339 ?_
        refine lv_land hx hb d_LA_law_342 ?_
        refine lv_lor hx hb d_LA_law_343 ?_
        refine f_asl hd7 ?_
        have hzA := hI.2.2.2.1
        refine f_calli hI (f_runV C hI (c_MO_fact_ok l G h9 _ M lo ki dd v d5 d7 mf g_M nf fl fk fd fw fv hFf la v_13 bla blo bki bd be1 be2 hre hq9 bv bnf2) gm_MO_fact w_992 w_993 w_991 g_M rfl rfl rfl hl.1 rfl (Nat.le_of_ble_eq_true rfl) ⟨Nat.le_of_ble_eq_true rfl, Nat.le_of_ble_eq_true rfl⟩ d_LA_law_344 ⟨by show _ ≤ 600000; (try dsimp only); omega, by show _ ≤ 7302250; (try dsimp only); omega⟩) (fun r_11 h9 H9 locs hp9 hX9 hz9 hI => ?_)
        obtain ⟨rfl, mf2, g_M, hm9, hFf9, v139, hF9⟩ := hp9
        have hX := fX.tr (Nat.le_trans (Nat.le_of_eq hsz.symm) hzA) hX hX9
        have hr : rAll G h9 M tn tx ne ef rr rm (nf + 1) (max la dd) (va_up fl nf lo) (va_up fk nf ki) (va_up fd nf dd) (va_up fw nf dd) (va_up fv nf v) sL sR Ls th du wr rn rl rD rM := ⟨mf2, rg, g_M, hTx.keep (fun j q1 q2 => hm9 j (by omega) (by omega)) hF9 (by decide), hRd.keep (fun j q1 q2 => hm9 j (by omega) (by omega)) hF9 (by decide), hEm.keep (fun j q1 q2 => hm9 j (by omega) (by omega)) hF9 (by decide), hFf9, v139, hS0.keep (fun j q1 q2 => hm9 j (by omega) (by omega)) hF9 (by decide), hSh.keep (fun j q1 q2 => hm9 j (by omega) (by omega)) hF9 (by decide), hRt.keep (fun j q1 q2 => hm9 j (by omega) (by omega)) hF9 (by decide)⟩
        have hc9 := hc9.keep hF9 (by decide)
        have hp : pAll ef rr rm (nf + 1) (max la dd) (va_up fl nf lo) (va_up fk nf ki) (va_up fd nf dd) th wr L9 := ⟨hrep, hrm, by omega, fun mn l q1 q2 q3 => hLt_up (hmon mn l q1 q2 q3), hz0⟩
        refine lv_icmp_eq (tgt := 859) hx hb d_LA_law_347 (by decide) (fun c_12 => ?_) (fun c_12 => absurd rfl c_12)
        refine K _ _ _ _ _ (by (try dsimp only); omega) (by (try dsimp only); omega) ⟨tn, tx, ne, ef, rr, rm, (nf + 1), (max la dd), (va_up fl nf lo), (va_up fk nf ki), (va_up fd nf dd), (va_up fw nf dd), (va_up fv nf v), sL, sR, Ls, th, du, wr, rn, rl, rD, rM, L9, hr, hc9, hp⟩ hX hI ls ?_
        exact lv_sub hl [0, 1, 2, 3] rfl
