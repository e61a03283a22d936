theorem w_gT {args : Array Value} {s : State} (hts : ∀ w ∈ lw_tbl, w.before args s = true) : ∀ w ∈ g_T, w.before args s = true := by
  intro w hw
  rcases List.mem_append.mp (List.mem_filter.mp hw).1 with h | h
  · rcases List.mem_cons.mp h with rfl | h
    · exact w_selAB (y2 := y_AB_isLatin1) rfl ⟨by decide, by decide⟩ (hts _ (by decide +kernel)) (hts _ (by decide +kernel)) (hts _ (by decide +kernel))
    · rcases List.mem_cons.mp h with rfl | h
      · exact w_selAB (y2 := y_AB_isLatin1) rfl ⟨by decide, by decide⟩ (hts _ (by decide +kernel)) (hts _ (by decide +kernel)) (hts _ (by decide +kernel))
      · exact absurd h List.not_mem_nil
  · exact hts w h
theorem w_kn {args : Array Value} {s : State} (hT : ∀ w ∈ g_T, w.before args s = true) {C : String} {T : u_T} {N n : Nat} (hin : ∀ w ∈ u_ws C T N, w ∈ g_T) (hi : Cond.instantiable C n ∈ g_T) : ∃ x : ClassId × (Nat → Nat), ∀ q : vw_C, some (C, T, N) = some q → u_Kn s q.1 q.2.1 q.2.2 x.1 x.2 := by
  obtain ⟨c, i, h⟩ := u_known (N := N) hT hin (hT _ hi)
  exact ⟨(c, i), fun q hq => by cases hq; exact h⟩
theorem w_cls {args : Array Value} {s : State} (hT : ∀ w ∈ g_T, w.before args s = true) : ∃ D : va_G, ∀ (k : Nat) (q : vw_C), g_cl[k]? = some q → u_Kn s q.1 q.2.1 q.2.2 (D.1 k) (D.2 k) := by
  have h0 : ∀ k : Nat, ∃ x : ClassId × (Nat → Nat), ∀ q : vw_C, g_cl[k]? = some q → u_Kn s q.1 q.2.1 q.2.2 x.1 x.2 := by
    intro k
    match k with
    | 0 => exact w_kn hT s_DR w_23
    | 1 => exact w_kn hT s_DU w_102
    | 2 => exact w_kn hT s_ED w_64
    | 3 => exact w_kn hT s_FA w_579
    | 4 => exact w_kn hT s_FS w_83
    | 5 => exact w_kn hT s_RE w_717
    | 6 => exact w_kn hT s_RU w_145
    | 7 => exact w_kn hT s_WO w_305
    | 8 => exact w_kn hT s_MO w_803
    | 9 => exact w_kn hT s_SB w_31
    | 10 => exact w_kn hT s_ST w_311
    | k + 11 => exact ⟨(0, fun _ => 0), fun q hq => by simp at hq⟩
  obtain ⟨f, hf⟩ := Classical.axiomOfChoice h0
  exact ⟨(fun k => (f k).1, fun k => (f k).2), fun k q hq => hf k q hq⟩
theorem w_arr {args : Array Value} {s : State} {ty : FieldType} (h : (Cond.arrayClass ty).before args s = true) : ∃ x : ClassId, ArrOfT s x ty ∧ s.vm.findClass ("[" ++ ty.toString) = some x := by
  obtain ⟨c, k, comp, h1, h2, h3⟩ := Cond.arrayClass_spec h
  exact ⟨c, fun n z => ⟨(fun k h => by cases h), k, h2, comp, h3⟩, h1⟩
theorem w_over {args : Array Value} {s : State} {C : String} (h : (Cond.arrayOver (.object C)).before args s = true) : ∃ x : ClassId, ArrOfT s x (.object C) ∧ va_RA s x (.object C) := by
  obtain ⟨comp, c, k, h1, h2, h3, h4, h5⟩ := Cond.arrayOver_spec h
  exact ⟨c, fun n z => ⟨(fun k h => by cases h), k, h3, comp, h4⟩, k, comp, h3, h4, h1, h5⟩
theorem w_tys {args : Array Value} {s : State} (hT : ∀ w ∈ g_T, w.before args s = true) (hr : (Cond.arrayOver (.object "DutyRules$Rules")).before args s = true) (hf : (Cond.arrayOver (.object "DutyRules$Fact")).before args s = true) : ∃ E : Nat → ClassId, ∀ (k : Nat) (q : ClassId × FieldType), (gTys E)[k]? = some q → ArrOfT s q.1 q.2 ∧ va_RA s q.1 q.2 := by
  obtain ⟨x0, a0⟩ := w_arr (hT _ w_81)
  obtain ⟨x1, a1⟩ := w_arr (hT _ w_143)
  obtain ⟨x2, a2⟩ := w_arr (hT _ w_742)
  obtain ⟨x3, a3⟩ := w_arr (hT _ w_62)
  obtain ⟨x4, a4⟩ := w_over hr
  obtain ⟨x5, a5⟩ := w_over hf
  refine ⟨fun k => match k with | 0 => x0 | 1 => x1 | 2 => x2 | 3 => x3 | 4 => x4 | _ => x5, fun k q hq => ?_⟩
  match k, hq with
  | 0, hq => cases hq; exact a0
  | 1, hq => cases hq; exact a1
  | 2, hq => cases hq; exact a2
  | 3, hq => cases hq; exact a3
  | 4, hq => cases hq; exact a4
  | 5, hq => cases hq; exact a5
  | k + 6, hq => simp [gTys] at hq
def tmS (i : Nat) : Term := .string (g_sl.getD i ("", 0, "", 0)).1 (g_sl.getD i ("", 0, "", 0)).2.1
theorem g_nl_in : ∀ w ∈ g_nl, w ∈ lw_tbl := by decide +kernel
theorem g_nl_on : g_nl.all Cond.onTables = true := rfl
theorem w_sl {args : Array Value} {s : State} (hts : ∀ w ∈ lw_tbl, w.before args s = true) {K Ad : Nat → Nat} (hev : ∀ i, i < 8 → (tmS i).eval args s none [] s = some (.ref (K i))) (hAd : ∀ i, i < 8 → Ad i = K i) : ∀ q ∈ g_sl, vk_R q.1 q.2.1 q.2.2.1 (Ad q.2.2.2) s := by
  have hst : ∀ q ∈ g_sl, Cond.stringRef q.1 q.2.1 q.2.2.1 ∈ lw_tbl := by decide +kernel
  have hix : ∀ q ∈ g_sl, q.2.2.2 < 8 ∧ g_sl[q.2.2.2]? = some q := by decide +kernel
  intro q hq
  obtain ⟨h8, hg⟩ := hix q hq
  refine vk_R.of (hts _ (hst q hq)) ?_
  have h := hev q.2.2.2 h8
  rw [← hAd _ h8] at h
  have e : tmS q.2.2.2 = .string q.1 q.2.1 := by
    unfold tmS
    rw [List.getD_eq_getElem?_getD, hg]
    rfl
  rw [e] at h
  exact h
def bsS : List Nat := [215, 219, 249, 279, 300, 323, 340, 357]
theorem n_S : ∀ i : Nat, i < 8 → (flatC (Jvm.Cond.and given_1 narrow_1))[bsS.getD i 0]? = some (Cond.exactly (tmS i) "java/lang/String") ∧ (flatC (Jvm.Cond.and given_1 narrow_1))[bsS.getD i 0 + 1]? = some (Cond.eq (.field (tmS i) "java/lang/String" "coder" "B") (.int 0)) ∧ (flatC (Jvm.Cond.and given_1 narrow_1))[bsS.getD i 0 + 2]? = some (Cond.arrayOf (.field (tmS i) "java/lang/String" "value" "[B") .byte) ∧ (flatC (Jvm.Cond.and given_1 narrow_1))[bsS.getD i 0 + 3]? = some (Cond.eq (.length (.field (tmS i) "java/lang/String" "value" "[B")) (.int (Int32.ofNat (lnS.getD i 0)))) := by decide +kernel
theorem n_el : ∀ i : Nat, i < 8 → ∀ j : Nat, j < lnS.getD i 0 → (flatC (Jvm.Cond.and given_1 narrow_1))[bsS.getD i 0 + 4 + j]? = some (Cond.eq (.elem (.field (tmS i) "java/lang/String" "value" "[B") (.int (Int32.ofNat j))) (.int ((byS.getD i []).getD j 0))) := by decide +kernel
theorem n_ne : ∀ j : Nat, j < 8 → ∀ i : Nat, i < j → (flatC (Jvm.Cond.and given_1 narrow_1))[bsS.getD j 0 + 4 + lnS.getD j 0 + i]? = some (Jvm.Cond.not (.eq (tmS i) (tmS j))) := by decide +kernel
theorem n_d1 : ∀ j : Nat, j < 100 → (flatC (Jvm.Cond.and given_1 narrow_1))[12 + j]? = some (Cond.eq (.elem (.static "java/lang/Integer" "DigitOnes" "[B") (.int (Int32.ofNat j))) (.int (sb_b (48 + j % 10)))) := by decide +kernel
theorem n_d2 : ∀ j : Nat, j < 100 → (flatC (Jvm.Cond.and given_1 narrow_1))[115 + j]? = some (Cond.eq (.elem (.static "java/lang/Integer" "DigitTens" "[B") (.int (Int32.ofNat j))) (.int (sb_b (48 + j / 10)))) := by decide +kernel
set_option maxRecDepth 100000 in
set_option maxHeartbeats 4000000 in
theorem whole_start {p : Program} {e : Env} {s : State} {m : MethodId} {below : List Frame} {meth : Method} {c : Code} (l : Launch) {b L : Nat} {xs : Nat → Int32} (hL : L ≤ 4608) (C0 : lw_At p s m meth c b L xs) : W p l e room_1 s m #[Value.ref b] below meth c s.heap [] 0 0 (lw_Z below #[Value.ref b] s) (entryFrame m ([Value.ref b] : List Value).toArray 4) := by
  obtain ⟨hx, hb, hr, hml, hown, hts, hX, hbl, hlocks, hgv⟩ := C0
  have hs := flat_of_before _ hgv
  have hT := w_gT hts
  have hAn : ∀ a : Nat, a < s.heap.size → ¬ (fun q : Nat => s.heap.size ≤ q) a := fun a h9 => Nat.not_le.mpr h9
  obtain ⟨D, hD⟩ := w_cls hT
  obtain ⟨E, hE⟩ := w_tys hT (hts _ (by decide +kernel)) (hts _ (by decide +kernel))
  obtain ⟨K, V, hS, hev⟩ := vk_Sof (args := #[Value.ref b]) (s := s) (A := (fun q : Nat => s.heap.size ≤ q)) (tm := tmS) (len := lnS) (byt := byS) (N := 8) (fun i hi => Nat.lt_trans (lnS_b i hi) (by decide)) (fun i hi => hs _ (List.mem_of_getElem? (n_S i hi).1)) (fun i hi => hs _ (List.mem_of_getElem? (n_S i hi).2.1)) (fun i hi => hs _ (List.mem_of_getElem? (n_S i hi).2.2.1)) (fun i hi => hs _ (List.mem_of_getElem? (n_S i hi).2.2.2)) (fun i hi j hj => hs _ (List.mem_of_getElem? (n_el i hi j hj))) (fun i j hi hj hij => by
    rcases Nat.lt_or_gt_of_ne hij with q | q
    · exact Or.inl (hs _ (List.mem_of_getElem? (n_ne j hj i q)))
    · exact Or.inr (hs _ (List.mem_of_getElem? (n_ne i hi j q)))) hAn
  obtain ⟨t1, ht1, hT1⟩ := va_Tof (args := #[Value.ref b]) (s := s) (A := (fun q : Nat => s.heap.size ≤ q)) (tm := .static "java/lang/Integer" "DigitOnes" "[B") (ty := .byte) (N := 100) (f := fun j => .int (sb_b (48 + j % 10))) (by decide) (hs _ (List.mem_of_getElem? (i := 10) (by decide +kernel))) (va_eqt (hs _ (List.mem_of_getElem? (i := 11) (by decide +kernel)))) (fun j hj => va_eqt (hs _ (List.mem_of_getElem? (n_d1 j hj)))) hAn
  obtain ⟨t2, ht2, hT2⟩ := va_Tof (args := #[Value.ref b]) (s := s) (A := (fun q : Nat => s.heap.size ≤ q)) (tm := .static "java/lang/Integer" "DigitTens" "[B") (ty := .byte) (N := 100) (f := fun j => .int (sb_b (48 + j / 10))) (by decide) (hs _ (List.mem_of_getElem? (i := 113) (by decide +kernel))) (va_eqt (hs _ (List.mem_of_getElem? (i := 114) (by decide +kernel)))) (fun j hj => va_eqt (hs _ (List.mem_of_getElem? (n_d2 j hj)))) hAn
  have z0 : va_Z "java/lang/String" "COMPACT_STRINGS" "Z" (.int 1) (fun q : Nat => s.heap.size ≤ q) s s.heap := va_Zof (hts _ (by decide +kernel)) (hts _ (by decide +kernel)) (va_eqi (hs _ (List.mem_of_getElem? (i := 4) (by decide +kernel)))) hAn
  have z1 : va_Z "java/lang/Integer" "DigitOnes" "[B" (.ref t1) (fun q : Nat => s.heap.size ≤ q) s s.heap := va_Zof (hts _ (by decide +kernel)) (hts _ (by decide +kernel)) ht1 hAn
  have z2 : va_Z "java/lang/Integer" "DigitTens" "[B" (.ref t2) (fun q : Nat => s.heap.size ≤ q) s s.heap := va_Zof (hts _ (by decide +kernel)) (hts _ (by decide +kernel)) ht2 hAn
  obtain ⟨fo, z3⟩ : ∃ fo : Nat, va_Z "jdk/internal/util/Preconditions" "SIOOBE_FORMATTER" "Ljava/util/function/BiFunction;" (va_rf (if fo = 0 then none else some (fo - 1))) (fun q : Nat => s.heap.size ≤ q) s s.heap := by
    rcases va_Zqof (args := #[Value.ref b]) (s := s) (C := "jdk/internal/util/Preconditions") (n := "SIOOBE_FORMATTER") (d := "Ljava/util/function/BiFunction;") (A := (fun q : Nat => s.heap.size ≤ q)) (hts _ (by decide +kernel)) (hts _ (by decide +kernel)) (hs _ (List.mem_of_getElem? (i := 5) (by decide +kernel))) hAn with z | ⟨t, z⟩
    · exact ⟨0, z⟩
    · exact ⟨t + 1, z⟩
  obtain ⟨h, cS, hfb, hcst, h0, hP⟩ := w_first hX D (hD 10 _ rfl) K V t1 t2 hS hT1 hT2
  have hA : ∀ q, fA h s.heap.size q → s.heap.size ≤ q := by
    intro q hq
    rcases hq with ⟨c, h1, h2⟩ | h1
    · exact absurd (h0 q c h1) h2
    · exact h1
  obtain ⟨Ad, hAd⟩ : ∃ Ad : Nat → Nat, (∀ i, i < 8 → Ad i = K i) ∧ Ad 100 = t1 ∧ Ad 101 = t2 ∧ Ad 102 = fo := ⟨fun i => if i < 8 then K i else if i = 100 then t1 else if i = 101 then t2 else fo, fun i hi => if_pos hi, rfl, rfl, rfl⟩
  obtain ⟨hc1, hc2⟩ := hcst (D, E, fun cA => fT s cA .byte, Ad) (fun cA q => q) hAd.1 hAd.2.1 hAd.2.2.1
  have hG : gK (D, E, fun cA => fT s cA .byte, Ad) s := ⟨⟨hD, hE⟩, fun w hw => va_Nw.of (List.all_eq_true.mp g_nl_on w hw) (hts w (g_nl_in w hw)), fun C hC => va_AO.of (A := #[Value.ref b]) (by
    rcases List.mem_cons.mp hC with rfl | hC
    · exact hts _ (by decide +kernel)
    · rcases List.mem_cons.mp hC with rfl | hC
      · exact hts _ (by decide +kernel)
      · exact absurd hC List.not_mem_nil), w_sl hts hev hAd.1, fun cA q => q⟩
  have hZ : gZ (D, E, fun cA => fT s cA .byte, Ad) (fA h s.heap.size) s s.heap := by
    have zz : ∀ z ∈ g_zl Ad, va_Z z.1 z.2.1 z.2.2.1 z.2.2.2 (fun q : Nat => s.heap.size ≤ q) s s.heap := by
      intro z hz
      rcases List.mem_cons.mp hz with rfl | hz
      · exact z0
      · rcases List.mem_cons.mp hz with rfl | hz
        · rw [hAd.2.1]; exact z1
        · rcases List.mem_cons.mp hz with rfl | hz
          · rw [hAd.2.2.1]; exact z2
          · rcases List.mem_cons.mp hz with rfl | hz
            · unfold gF; rw [hAd.2.2.2]; exact z3
            · exact absurd hz List.not_mem_nil
    exact fun z hz => (zz z hz).narrow hA
  exact q_law l (D, E, fun cA => fT s cA .byte, Ad) h b L xs cS ⟨hx, hb, hml, hown, rfl, hlocks, hT, hG, hZ⟩ hfb hc1 hL hr hA hc2 ⟨hP, fun a c ha hc => absurd (h0 a c ha) hc, fun q hq => Or.inr hq, va_S.rf⟩
