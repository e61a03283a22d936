/-! rows by natural numbers: places, comparisons, sums -/
section F2
variable {p : Program} {l : Launch} {e : Env} {R : Room} {s : State} {m : MethodId} {args : Array Value} {below : List Frame} {meth : Method} {c : Code} {H : Heap} {locs : List Loc} {cells slots : Nat} {Q : State → Prop}
variable {cc : ByteArray} {pc : Nat} {ls : Array Slot} {rest : List Value} {D : va_G} {cl : List vw_C} {A : Nat → Prop} {a r o : Nat} {h : fH} {H0 : Heap}
theorem f_asi {x y : Int32} (he : x = y) (k : W p l e R s m args below meth c H locs cells slots Q (F0 m pc ls (.int y :: rest))) : W p l e R s m args below meth c H locs cells slots Q (F0 m pc ls (.int x :: rest)) := by rw [he]; exact k
theorem f_asl {x y : Int64} (he : x = y) (k : W p l e R s m args below meth c H locs cells slots Q (F0 m pc ls (.long y :: rest))) : W p l e R s m args below meth c H locs cells slots Q (F0 m pc ls (.long x :: rest)) := by rw [he]; exact k
theorem f_inc1 (n : Nat) : nI n + Int32.ofInt 1 = nI (n + 1) := nI_1 n
theorem f_ialdn (hexec : p.tables.exec = Jvm.exec) (hb : c.code = cc) (hI : fI D cl A H0 h H locs) {cA : ClassId} {n : Nat} {f : Nat → Int32} (ha : h a = some (r, o, .inl (cA, n, .inl f))) (ht : fT s cA .int) {k : Nat} (hk : k < n) (hn : n < 2 ^ 31) {v : Int32} (hv : f k = v) (hdg : decode cc pc = .ok (.iaload, 1))
    (kk : W p l e R s m args below meth c H locs cells slots Q (F0 m (pc + 1) ls (.int v :: rest))) : W p l e R s m args below meth c H locs cells slots Q (F0 m pc ls (.int (nI k) :: .ref a :: rest)) := by
  refine f_iald hexec hb hI ha ht (vp_in_nI hk hn) hdg ?_
  rw [nI_clamp (by omega), hv]; exact kk
theorem f_baldn (hexec : p.tables.exec = Jvm.exec) (hb : c.code = cc) (hI : fI D cl A H0 h H locs) {cA : ClassId} {n : Nat} {f : Nat → Int32} (ha : h a = some (r, o, .inl (cA, n, .inl f))) (ht : fT s cA .byte) {k : Nat} (hk : k < n) (hn : n < 2 ^ 31) {v : Int32} (hv : f k = v) (hdg : decode cc pc = .ok (.baload, 1))
    (kk : W p l e R s m args below meth c H locs cells slots Q (F0 m (pc + 1) ls (.int v :: rest))) : W p l e R s m args below meth c H locs cells slots Q (F0 m pc ls (.int (nI k) :: .ref a :: rest)) := by
  refine f_bald hexec hb hI ha ht (vp_in_nI hk hn) hdg ?_
  rw [nI_clamp (by omega), hv]; exact kk
theorem f_zaldn (hexec : p.tables.exec = Jvm.exec) (hb : c.code = cc) (hI : fI D cl A H0 h H locs) {cA : ClassId} {n : Nat} {f : Nat → Int32} (ha : h a = some (r, o, .inl (cA, n, .inl f))) (ht : fT s cA .boolean) {k : Nat} (hk : k < n) (hn : n < 2 ^ 31) {v : Int32} (hv : f k = v) (hdg : decode cc pc = .ok (.baload, 1))
    (kk : W p l e R s m args below meth c H locs cells slots Q (F0 m (pc + 1) ls (.int v :: rest))) : W p l e R s m args below meth c H locs cells slots Q (F0 m pc ls (.int (nI k) :: .ref a :: rest)) := by
  refine f_zald hexec hb hI ha ht (vp_in_nI hk hn) hdg ?_
  rw [nI_clamp (by omega), hv]; exact kk
theorem f_laldn (hexec : p.tables.exec = Jvm.exec) (hb : c.code = cc) (hI : fI D cl A H0 h H locs) {cA : ClassId} {n : Nat} {f : Nat → Int64} (ha : h a = some (r, o, .inl (cA, n, .inr (.inl f)))) (ht : fT s cA .long) {k : Nat} (hk : k < n) (hn : n < 2 ^ 31) {v : Int64} (hv : f k = v) (hdg : decode cc pc = .ok (.laload, 1))
    (kk : W p l e R s m args below meth c H locs cells slots Q (F0 m (pc + 1) ls (.long v :: rest))) : W p l e R s m args below meth c H locs cells slots Q (F0 m pc ls (.int (nI k) :: .ref a :: rest)) := by
  refine f_lald hexec hb hI ha ht (vp_in_nI hk hn) hdg ?_
  rw [nI_clamp (by omega), hv]; exact kk
theorem f_aaldn (hexec : p.tables.exec = Jvm.exec) (hb : c.code = cc) (hI : fI D cl A H0 h H locs) {cA : ClassId} {C : String} {n : Nat} {f : Nat → Option Nat} (ha : h a = some (r, o, .inl (cA, n, .inr (.inr (.inr (.inr f)))))) (ht : fT s cA (.object C)) {k : Nat} (hk : k < n) (hn : n < 2 ^ 31) {v : Option Nat} (hv : f k = v) (hdg : decode cc pc = .ok (.aaload, 1))
    (kk : W p l e R s m args below meth c H locs cells slots Q (F0 m (pc + 1) ls (va_rf v :: rest))) : W p l e R s m args below meth c H locs cells slots Q (F0 m pc ls (.int (nI k) :: .ref a :: rest)) := by
  refine f_aald hexec hb hI ha ht (vp_in_nI hk hn) hdg ?_
  rw [nI_clamp (by omega), hv]; exact kk
theorem f_iastn (hexec : p.tables.exec = Jvm.exec) (hb : c.code = cc) (hI : fI D cl A H0 h H locs) {cA : ClassId} {n : Nat} {f : Nat → Int32} (ha : h a = some (r, o, .inl (cA, n, .inl f))) (hr0 : r ≠ 0) (ht : fT s cA .int) {k : Nat} {x : Int32} (hk : k < n) (hn : n < 2 ^ 31) {f' : Nat → Int32} (hf : upd f k x = f') (hdg : decode cc pc = .ok (.iastore, 1))
    (kk : ∀ (H : Heap) (locs : List Loc), fI D cl A H0 (fU h a (r, o, .inl (cA, n, .inl f'))) H locs → W p l e R s m args below meth c H locs cells slots Q (F0 m (pc + 1) ls rest)) : W p l e R s m args below meth c H locs cells slots Q (F0 m pc ls (.int x :: .int (nI k) :: .ref a :: rest)) := by
  refine f_iast hexec hb hI ha hr0 ht (vp_in_nI hk hn) hdg (fun H locs hI => ?_)
  rw [nI_clamp (by omega), hf] at hI
  exact kk H locs hI
theorem f_bastn (hexec : p.tables.exec = Jvm.exec) (hb : c.code = cc) (hI : fI D cl A H0 h H locs) {cA : ClassId} {n : Nat} {f : Nat → Int32} (ha : h a = some (r, o, .inl (cA, n, .inl f))) (hr0 : r ≠ 0) (ht : fT s cA .byte) {k : Nat} {x : Int32} (hk : k < n) (hn : n < 2 ^ 31) {f' : Nat → Int32} (hf : upd f k x.toInt8.toInt32 = f') (hdg : decode cc pc = .ok (.bastore, 1))
    (kk : ∀ (H : Heap) (locs : List Loc), fI D cl A H0 (fU h a (r, o, .inl (cA, n, .inl f'))) H locs → W p l e R s m args below meth c H locs cells slots Q (F0 m (pc + 1) ls rest)) : W p l e R s m args below meth c H locs cells slots Q (F0 m pc ls (.int x :: .int (nI k) :: .ref a :: rest)) := by
  refine f_bast hexec hb hI ha hr0 ht (vp_in_nI hk hn) hdg (fun H locs hI => ?_)
  rw [nI_clamp (by omega), hf] at hI
  exact kk H locs hI
theorem f_zastn (hexec : p.tables.exec = Jvm.exec) (hb : c.code = cc) (hI : fI D cl A H0 h H locs) {cA : ClassId} {n : Nat} {f : Nat → Int32} (ha : h a = some (r, o, .inl (cA, n, .inl f))) (hr0 : r ≠ 0) (ht : fT s cA .boolean) {k : Nat} {x : Int32} (hk : k < n) (hn : n < 2 ^ 31) {f' : Nat → Int32} (hf : upd f k (x &&& 1) = f') (hdg : decode cc pc = .ok (.bastore, 1))
    (kk : ∀ (H : Heap) (locs : List Loc), fI D cl A H0 (fU h a (r, o, .inl (cA, n, .inl f'))) H locs → W p l e R s m args below meth c H locs cells slots Q (F0 m (pc + 1) ls rest)) : W p l e R s m args below meth c H locs cells slots Q (F0 m pc ls (.int x :: .int (nI k) :: .ref a :: rest)) := by
  refine f_zast hexec hb hI ha hr0 ht (vp_in_nI hk hn) hdg (fun H locs hI => ?_)
  rw [nI_clamp (by omega), hf] at hI
  exact kk H locs hI
theorem f_lastn (hexec : p.tables.exec = Jvm.exec) (hb : c.code = cc) (hI : fI D cl A H0 h H locs) {cA : ClassId} {n : Nat} {f : Nat → Int64} (ha : h a = some (r, o, .inl (cA, n, .inr (.inl f)))) (hr0 : r ≠ 0) (ht : fT s cA .long) {k : Nat} {x : Int64} (hk : k < n) (hn : n < 2 ^ 31) {f' : Nat → Int64} (hf : vp_updL f k x = f') (hdg : decode cc pc = .ok (.lastore, 1))
    (kk : ∀ (H : Heap) (locs : List Loc), fI D cl A H0 (fU h a (r, o, .inl (cA, n, .inr (.inl f')))) H locs → W p l e R s m args below meth c H locs cells slots Q (F0 m (pc + 1) ls rest)) : W p l e R s m args below meth c H locs cells slots Q (F0 m pc ls (.long x :: .int (nI k) :: .ref a :: rest)) := by
  refine f_last hexec hb hI ha hr0 ht (vp_in_nI hk hn) hdg (fun H locs hI => ?_)
  rw [nI_clamp (by omega), hf] at hI
  exact kk H locs hI
end F2
theorem n_le {a b : Nat} (ha : a < 2 ^ 31) (hb : b < 2 ^ 31) : nI a ≤ nI b ↔ a ≤ b := nI_leI ha hb
theorem n_lt {a b : Nat} (ha : a < 2 ^ 31) (hb : b < 2 ^ 31) : nI a < nI b ↔ a < b := nI_ltI ha hb
theorem n_eq {a b : Nat} (ha : a < 2 ^ 31) (hb : b < 2 ^ 31) : nI a = nI b ↔ a = b := nI_eq ha hb
theorem n_i2l {a : Nat} (ha : a < 2 ^ 31) : (nI a).toInt64 = lN a := nI_l ha
theorem n_l2i (a : Nat) : (lN a).toInt32 = nI a := lN_i a
theorem n_m1 {a : Nat} (ha : a < 2 ^ 31) : ¬ nI a = -1 := fun q => by
  have h1 := congrArg Int32.toInt q
  rw [nI_toInt ha] at h1
  have h2 : ((-1 : Int32)).toInt = -1 := by decide
  omega
theorem n_ne0 {a : Nat} (h0 : 0 < a) (h : a < 2 ^ 31) : ¬ nI a = 0 := nI_ne0 h0 h
theorem l_ne0 {a : Nat} (h0 : 0 < a) (h : a < 2 ^ 63) : ¬ lN a = 0 := fun q => by
  have := (pk_lEQ (a := a) (b := 0) h (by decide)).mp q
  omega
theorem ne_out {a b j f : Nat} (h1 : a ≤ j) (h2 : j ≤ b) (hf : f < a ∨ b < f) : j ≠ f := by omega
theorem ne_rng {a b j f : Nat} (hj : j < a ∨ b < j) (hf : a ≤ f ∧ f ≤ b) : j ≠ f := by omega
theorem up_i (f : Nat → Nat) (k v : Nat) : upd (fun i => nI (f i)) k (nI v) = fun i => nI (va_up f k v i) := by
  funext j
  by_cases hj : j = k
  · subst hj; simp [upd, va_up]
  · simp [upd, va_up, hj]
theorem up_l (f : Nat → Nat) (k v : Nat) : vp_updL (fun i => lN (f i)) k (lN v) = fun i => lN (va_up f k v i) := by
  funext j
  by_cases hj : j = k
  · subst hj; simp [vp_updL, va_up]
  · simp [vp_updL, va_up, hj]
/-! THE FACTS: the one that holds, by the greatest key; the edition that holds; the first rule -/
def kK (fd : Nat → Nat) (i : Nat) : Nat := fd i * 1000 + i + 1
def hM (fl fk fd fw : Nat → Nat) (lot kind day on i : Nat) : Prop := fl i = lot ∧ fk i = kind ∧ fd i ≤ day ∧ fw i ≤ on
noncomputable def hk (fl fk fd fw : Nat → Nat) (lot kind day on : Nat) : Nat → Nat
  | 0 => 0
  | n + 1 => if fl n = lot ∧ fk n = kind ∧ fd n ≤ day ∧ fw n ≤ on then max (hk fl fk fd fw lot kind day on n) (kK fd n) else hk fl fk fd fw lot kind day on n
theorem hk_no {fl fk fd fw : Nat → Nat} {lot kind day on n : Nat} (h : ¬ hM fl fk fd fw lot kind day on n) : hk fl fk fd fw lot kind day on (n + 1) = hk fl fk fd fw lot kind day on n := by
  show (if _ then _ else _) = _
  exact if_neg h
theorem hk_yes {fl fk fd fw : Nat → Nat} {lot kind day on n : Nat} (h : hM fl fk fd fw lot kind day on n) : hk fl fk fd fw lot kind day on (n + 1) = max (hk fl fk fd fw lot kind day on n) (kK fd n) := by
  show (if _ then _ else _) = _
  exact if_pos h
theorem hk_ix {fl fk fd fw : Nat → Nat} {lot kind day on : Nat} : ∀ n : Nat, hk fl fk fd fw lot kind day on n = 0 ∨ ∃ i, i < n ∧ hk fl fk fd fw lot kind day on n = kK fd i ∧ hM fl fk fd fw lot kind day on i
  | 0 => Or.inl rfl
  | n + 1 => by
    by_cases h : hM fl fk fd fw lot kind day on n
    · rw [hk_yes h]
      refine Or.inr ?_
      rcases hk_ix n with q | ⟨i, h1, h2, h3⟩
      · exact ⟨n, by omega, by rw [q]; exact Nat.max_eq_right (Nat.zero_le _), h⟩
      · rcases Nat.le_total (kK fd i) (kK fd n) with q | q
        · exact ⟨n, by omega, by rw [h2]; exact Nat.max_eq_right q, h⟩
        · exact ⟨i, by omega, by rw [h2]; exact Nat.max_eq_left q, h3⟩
    · rw [hk_no h]
      rcases hk_ix n with q | ⟨i, h1, h2, h3⟩
      · exact Or.inl q
      · exact Or.inr ⟨i, by omega, h2, h3⟩
/-- a key's place, -1 for none -/
def bI (k : Nat) : Int32 := if k = 0 then -1 else nI ((k - 1) % 1000)
theorem bI_0 : bI 0 = -1 := rfl
theorem bI_k {fd : Nat → Nat} {i : Nat} (hi : i < 1000) : bI (kK fd i) = nI i := by
  unfold bI kK
  rw [if_neg (by omega)]
  congr 1
  omega
theorem kK_lt {fd : Nat → Nat} {i n : Nat} (hi : i < n) (hn : n < 1000) (h : fd i ≤ fd n) : kK fd i < kK fd n := by unfold kK; omega
theorem kK_gt {fd : Nat → Nat} {i n : Nat} (hn : n < 1000) (h : fd n < fd i) : kK fd n < kK fd i := by unfold kK; omega
