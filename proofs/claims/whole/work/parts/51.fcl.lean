/-! THE CLASS'S FACTS: a chain for each lot and kind -/
def lQ (fl fk : Nat → Nat) (lot kind f : Nat) : Bool := decide (fl f = lot ∧ fk f = kind)
theorem lst_gap {P : Nat → Bool} : ∀ {n j : Nat}, lst P n = some j → ∀ i, j < i → i < n → ¬ P i = true
  | 0, j, h => by cases h
  | n + 1, j, h => by
    intro i h1 h2
    by_cases hp : P n = true
    · have e1 : lst P (n + 1) = some n := if_pos hp
      rw [e1] at h
      cases h
      omega
    · have e1 : lst P (n + 1) = lst P n := if_neg hp
      rw [e1] at h
      by_cases hi : i = n
      · rw [hi]; exact hp
      · exact lst_gap h i h1 (by omega)
theorem lst_none {P : Nat → Bool} : ∀ {n : Nat}, lst P n = none → ∀ i, i < n → ¬ P i = true
  | 0, _ => fun i hi => absurd hi (Nat.not_lt_zero i)
  | n + 1, h => by
    intro i h2
    by_cases hp : P n = true
    · have e1 : lst P (n + 1) = some n := if_pos hp
      rw [e1] at h
      cases h
    · have e1 : lst P (n + 1) = lst P n := if_neg hp
      rw [e1] at h
      by_cases hi : i = n
      · rw [hi]; exact hp
      · exact lst_none h i (by omega)
theorem lst_congr {P P' : Nat → Bool} : ∀ {n : Nat}, (∀ i, i < n → P i = P' i) → lst P n = lst P' n
  | 0, _ => rfl
  | n + 1, h => by
    unfold lst
    rw [h n (by omega), lst_congr (fun i hi => h i (by omega))]
theorem hk_gap {fl fk fd fw : Nat → Nat} {lot kind day on j : Nat} : ∀ {n : Nat}, j ≤ n → (∀ i, j ≤ i → i < n → ¬ lQ fl fk lot kind i = true) → hk fl fk fd fw lot kind day on n = hk fl fk fd fw lot kind day on j
  | 0, h, _ => by rw [show j = 0 by omega]
  | n + 1, h, hn => by
    by_cases e : j = n + 1
    · rw [e]
    · rw [hk_no (fun q => hn n (by omega) (by omega) (by simp only [lQ, decide_eq_true_eq]; exact ⟨q.1, q.2.1⟩))]
      exact hk_gap (by omega) (fun i h1 h2 => hn i h1 (by omega))
theorem hk_step {fl fk fd fw : Nat → Nat} {lot kind day on n j : Nat} (h : lst (lQ fl fk lot kind) n = some j) : hk fl fk fd fw lot kind day on n = hk fl fk fd fw lot kind day on (j + 1) :=
  hk_gap (by have := (lst_in h).1; omega) (fun i h1 h2 => lst_gap h i (by omega) h2)
theorem hk_end {fl fk fd fw : Nat → Nat} {lot kind day on n : Nat} (h : lst (lQ fl fk lot kind) n = none) : hk fl fk fd fw lot kind day on n = 0 :=
  (hk_gap (j := 0) (Nat.zero_le _) (fun i _ h2 => lst_none h i h2)).trans rfl
theorem hLt_gap {fl fk fd : Nat → Nat} {lot mn j : Nat} : ∀ {n : Nat}, j ≤ n → (∀ i, j ≤ i → i < n → ¬ lQ fl fk lot 2 i = true) → hLt fl fk fd lot mn n = hLt fl fk fd lot mn j
  | 0, h, _ => by rw [show j = 0 by omega]
  | n + 1, h, hn => by
    by_cases e : j = n + 1
    · rw [e]
    · have h1 : ¬ (fl n = lot ∧ fk n = 2 ∧ fd n / 30 = mn) := fun q => hn n (by omega) (by omega) (by simp only [lQ, decide_eq_true_eq]; exact ⟨q.1, q.2.1⟩)
      show (hLt fl fk fd lot mn n || decide _) = _
      rw [decide_eq_false h1, Bool.or_false]
      exact hLt_gap (by omega) (fun i h1 h2 => hn i h1 (by omega))
theorem hLt_step {fl fk fd : Nat → Nat} {lot mn n j : Nat} (h : lst (lQ fl fk lot 2) n = some j) : hLt fl fk fd lot mn n = hLt fl fk fd lot mn (j + 1) :=
  hLt_gap (by have := (lst_in h).1; omega) (fun i h1 h2 => lst_gap h i (by omega) h2)
theorem hLt_end {fl fk fd : Nat → Nat} {lot mn n : Nat} (h : lst (lQ fl fk lot 2) n = none) : hLt fl fk fd lot mn n = false :=
  (hLt_gap (j := 0) (Nat.zero_le _) (fun i _ h2 => lst_none h i h2)).trans rfl
/-- the facts' object, its array, the facts -/
def fcc (fl fk fd fw fv fa : Nat → Nat) (i : Nat) : fC := (12, i, .inr (3, [.int (nI (fd i)), .int (nI (fv i)), va_rf ((lst (lQ fl fk (fl i) (fk i)) i).map fa), .int (nI (fw i))]))
def cFo (G : gG) (h : fH) (F A : Nat) (fa : Nat → Nat) (gq : Nat → Option Nat) (nf la : Nat) (fl fk fd fw fv : Nat → Nat) : Prop :=
  h F = some (10, 0, .inr (4, [.int (nI nf), .int (nI la), .ref A])) ∧ h A = some (11, 0, .inl (G.2.1 5, 180, .inr (.inr (.inr (.inr gq))))) ∧
  (∀ lot kind, lot < 30 → kind < 6 → gq (lot * 6 + kind) = (lst (lQ fl fk lot kind) nf).map fa) ∧ (∀ i, i < nf → h (fa i) = some (fcc fl fk fd fw fv fa i)) ∧
  nf ≤ 300 ∧ la ≤ 100000 ∧ (∀ i, fl i < 30) ∧ (∀ i, fk i < 6) ∧ (∀ i, fd i ≤ 100000) ∧ (∀ i, fw i ≤ 100000) ∧ ∀ i, fv i ≤ mostN (fk i)
theorem cFo.keepF {G : gG} {h h' : fH} {F A : Nat} {fa : Nat → Nat} {gq : Nat → Option Nat} {nf la : Nat} {fl fk fd fw fv : Nat → Nat} {S : List Nat} (H : cFo G h F A fa gq nf la fl fk fd fw fv) (hF : fF (inR S) h h') (h1 : ¬ 10 ∈ S) (h2 : ¬ 11 ∈ S) (h3 : ¬ 12 ∈ S) : cFo G h' F A fa gq nf la fl fk fd fw fv :=
  ⟨hF _ _ _ _ H.1 h1, hF _ _ _ _ H.2.1 h2, H.2.2.1, fun i hi => hF _ _ _ _ (H.2.2.2.1 i hi) h3, H.2.2.2.2⟩
def inP (r0 o0 : Nat) : Nat → Nat → Prop := fun r o => r = r0 ∧ o = o0
theorem lot_1 {lot : Nat} (hl : lot < 30) : (if nI lot < 0 then (0 : Int32) else (if 30 ≤ nI lot then 0 else 1)) = 1 := by
  rw [if_neg (nI_pos (by omega)), if_neg (show ¬ (30 : Int32) ≤ nI lot from fun q => absurd ((n_le (a := 30) (b := lot) (by omega) (by omega)).mp q) (by omega))]
theorem kin_1 {kind : Nat} (hl : kind < 6) : (if nI kind < 0 then (0 : Int32) else (if 6 ≤ nI kind then 0 else 1)) = 1 := by
  rw [if_neg (nI_pos (by omega)), if_neg (show ¬ (6 : Int32) ≤ nI kind from fun q => absurd ((n_le (a := 6) (b := kind) (by omega) (by omega)).mp q) (by omega))]
/-- the fact met last on the way down the chain that holds by now -/
def hdK (fd : Nat → Nat) : Option Nat → Nat
  | none => 0
  | some i => kK fd i
theorem hd_no {fl fk fd fw : Nat → Nat} {lot kind day on nf n j : Nat} {hd : Option Nat} (hi : hk fl fk fd fw lot kind day on nf = max (hk fl fk fd fw lot kind day on n) (hdK fd hd)) (h : lst (lQ fl fk lot kind) n = some j) (hn : ¬ hM fl fk fd fw lot kind day on j) : hk fl fk fd fw lot kind day on nf = max (hk fl fk fd fw lot kind day on j) (hdK fd hd) := by rw [hi, hk_step h, hk_no hn]
theorem hd_le {fl fk fd fw : Nat → Nat} {lot kind day on nf n j : Nat} {hd : Option Nat} (hi : hk fl fk fd fw lot kind day on nf = max (hk fl fk fd fw lot kind day on n) (hdK fd hd)) (h : lst (lQ fl fk lot kind) n = some j) (hm : hM fl fk fd fw lot kind day on j) (hn : kK fd j ≤ hdK fd hd) : hk fl fk fd fw lot kind day on nf = max (hk fl fk fd fw lot kind day on j) (hdK fd hd) := by rw [hi, hk_step h, hk_yes hm]; omega
theorem hd_gt {fl fk fd fw : Nat → Nat} {lot kind day on nf n j : Nat} {hd : Option Nat} (hi : hk fl fk fd fw lot kind day on nf = max (hk fl fk fd fw lot kind day on n) (hdK fd hd)) (h : lst (lQ fl fk lot kind) n = some j) (hm : hM fl fk fd fw lot kind day on j) (hn : hdK fd hd ≤ kK fd j) : hk fl fk fd fw lot kind day on nf = max (hk fl fk fd fw lot kind day on j) (hdK fd (some j)) := by
  rw [hi, hk_step h, hk_yes hm]
  show _ = max _ (kK fd j)
  omega
section F5
variable {p : Program} {l : Launch} {e : Env} {R : Room} {s : State} {m : MethodId} {args : Array Value} {below : List Frame} {meth : Method} {c : Code} {H : Heap} {locs : List Loc} {cells slots : Nat} {Q : State → Prop}
variable {cc : ByteArray} {pc : Nat} {ls : Array Slot} {rest : List Value} {D : va_G} {cl : List vw_C} {A : Nat → Prop} {a r o : Nat} {tys : List (ClassId × FieldType)} {h : fH} {H0 : Heap}
theorem f_aastn (hexec : p.tables.exec = Jvm.exec) (hb : c.code = cc) (hK : va_K D cl tys s) (hI : fI D cl A H0 h H locs) {cA : ClassId} {q : vw_C} {n v r2 o2 ci t0 : Nat} {vs : List Value} {f : Nat → Option Nat} (ha : h a = some (r, o, .inl (cA, n, .inr (.inr (.inr (.inr f)))))) (hr0 : r ≠ 0) (ht : tys[t0]? = some (cA, .object q.1)) (hv : h v = some (r2, o2, .inr (ci, vs))) (hr2 : r2 ≠ 0) (hc : cl[ci]? = some q) {k : Nat} (hk : k < n) (hn : n < 2 ^ 31) (hdg : decode cc pc = .ok (.aastore, 1))
    (kk : ∀ (H : Heap) (locs : List Loc), fI D cl A H0 (fU h a (r, o, .inl (cA, n, .inr (.inr (.inr (.inr (va_up f k (some v)))))))) H locs → W p l e R s m args below meth c H locs cells slots Q (F0 m (pc + 1) ls rest)) : W p l e R s m args below meth c H locs cells slots Q (F0 m pc ls (.ref v :: .int (nI k) :: .ref a :: rest)) := by
  refine f_aast hexec hb hK hI ha hr0 ht hv hr2 hc (vp_in_nI hk hn) hdg (fun H locs hI => ?_)
  rw [nI_clamp (by omega)] at hI
  exact kk H locs hI
end F5
theorem mx_m {a b : Nat} (ha : a < 2 ^ 31) (hb : b < 2 ^ 31) : (if nI a < nI b then nI b else nI a) = nI (max a b) := by
  by_cases q : a < b
  · rw [if_pos (nI_lt q hb), Nat.max_eq_right (by omega)]
  · rw [if_neg (nI_nlt (by omega) ha), Nat.max_eq_left (by omega)]
theorem lst_map {P : Nat → Bool} {n : Nat} {f g : Nat → Nat} (h : ∀ i, i < n → f i = g i) : (lst P n).map f = (lst P n).map g := by
  rcases e : lst P n with _ | j
  · rfl
  · show some (f j) = some (g j)
    rw [h j (lst_in e).1]
theorem lQ_up {fl fk : Nat → Nat} {nf lot kind a b : Nat} : ∀ i, i < nf → lQ (va_up fl nf lot) (va_up fk nf kind) a b i = lQ fl fk a b i := by
  intro i hi
  unfold lQ
  rw [va_up_ne _ _ (by omega), va_up_ne _ _ (by omega)]
theorem fcc_up {fl fk fd fw fv fa : Nat → Nat} {nf lot kind d w v q i : Nat} (hi : i < nf) : fcc (va_up fl nf lot) (va_up fk nf kind) (va_up fd nf d) (va_up fw nf w) (va_up fv nf v) (va_up fa nf q) i = fcc fl fk fd fw fv fa i := by
  unfold fcc
  have hne : i ≠ nf := by omega
  rw [va_up_ne fl _ hne, va_up_ne fk _ hne, va_up_ne fd _ hne, va_up_ne fw _ hne, va_up_ne fv _ hne, lst_congr (P := lQ (va_up fl nf lot) (va_up fk nf kind) (fl i) (fk i)) (P' := lQ fl fk (fl i) (fk i)) (fun j hj => lQ_up j (by omega)), lst_map (fun j hj => va_up_ne fa _ (by omega))]
theorem cFo_add {G : gG} {h : fH} {F A : Nat} {fa : Nat → Nat} {gq : Nat → Option Nat} {nf la lot kind d v q : Nat} {fl fk fd fw fv : Nat → Nat} (g_F : h F = some (10, 0, .inr (4, [.int (nI (nf + 1)), .int (nI (max la d)), .ref A]))) (g_A : h A = some (11, 0, .inl (G.2.1 5, 180, .inr (.inr (.inr (.inr (va_up gq (lot * 6 + kind) (some q))))))))
    (hgq : ∀ lot kind, lot < 30 → kind < 6 → gq (lot * 6 + kind) = (lst (lQ fl fk lot kind) nf).map fa) (hfa : ∀ i, i < nf → h (fa i) = some (fcc fl fk fd fw fv fa i)) (g_q : h q = some (12, nf, .inr (3, [.int (nI d), .int (nI v), va_rf ((lst (lQ fl fk lot kind) nf).map fa), .int (nI d)])))
    (bnf : nf < 300) (bla : la ≤ 100000) (bfl : ∀ i, fl i < 30) (bfk : ∀ i, fk i < 6) (bfd : ∀ i, fd i ≤ 100000) (bfw : ∀ i, fw i ≤ 100000) (bfv : ∀ i, fv i ≤ mostN (fk i)) (blot : lot < 30) (bkind : kind < 6) (bd : d ≤ 100000) (bv : v ≤ mostN kind) :
    cFo G h F A (va_up fa nf q) (va_up gq (lot * 6 + kind) (some q)) (nf + 1) (max la d) (va_up fl nf lot) (va_up fk nf kind) (va_up fd nf d) (va_up fw nf d) (va_up fv nf v) := by
  refine ⟨g_F, g_A, fun a b ha hb => ?_, fun i hi => ?_, by omega, by omega, up_lt bfl blot, up_lt bfk bkind, up_le bfd bd, up_le bfw bd, fun i => by
    by_cases e : i = nf
    · rw [e, va_up_self, va_up_self]; exact bv
    · rw [va_up_ne _ _ e, va_up_ne _ _ e]; exact bfv i⟩
  · have e1 : lst (lQ (va_up fl nf lot) (va_up fk nf kind) a b) nf = lst (lQ fl fk a b) nf := lst_congr (fun j hj => lQ_up j hj)
    by_cases hab : a = lot ∧ b = kind
    · have e2 : lst (lQ (va_up fl nf lot) (va_up fk nf kind) a b) (nf + 1) = some nf := if_pos (by unfold lQ; rw [va_up_self, va_up_self]; simp only [decide_eq_true_eq]; exact ⟨hab.1.symm, hab.2.symm⟩)
      rw [e2, hab.1, hab.2, va_up_self]
      show some q = some (va_up fa nf q nf)
      rw [va_up_self]
    · have e2 : lst (lQ (va_up fl nf lot) (va_up fk nf kind) a b) (nf + 1) = lst (lQ (va_up fl nf lot) (va_up fk nf kind) a b) nf := if_neg (by unfold lQ; rw [va_up_self, va_up_self]; simp only [decide_eq_true_eq]; exact fun z => hab ⟨z.1.symm, z.2.symm⟩)
      rw [e2, e1, va_up_ne _ _ (by omega), hgq a b ha hb]
      exact lst_map (fun j hj => (va_up_ne fa _ (by omega)).symm)
  · by_cases e : i = nf
    · subst e
      rw [va_up_self, g_q]
      unfold fcc
      rw [va_up_self, va_up_self, va_up_self, va_up_self, va_up_self, lst_congr (P := lQ (va_up fl i lot) (va_up fk i kind) lot kind) (P' := lQ fl fk lot kind) (fun j hj => lQ_up j hj), lst_map (f := va_up fa i q) (g := fa) (fun j hj => va_up_ne fa _ (by omega))]
    · rw [va_up_ne fa _ e, fcc_up (by omega)]
      exact hfa i (by omega)
theorem cFo_told {G : gG} {h : fH} {F A : Nat} {fa : Nat → Nat} {gq : Nat → Option Nat} {nf la j w : Nat} {fl fk fd fw fv : Nat → Nat} (g_F : h F = some (10, 0, .inr (4, [.int (nI nf), .int (nI (max la w)), .ref A]))) (g_A : h A = some (11, 0, .inl (G.2.1 5, 180, .inr (.inr (.inr (.inr gq))))))
    (hgq : ∀ lot kind, lot < 30 → kind < 6 → gq (lot * 6 + kind) = (lst (lQ fl fk lot kind) nf).map fa) (hfa : ∀ i, i < nf → i ≠ j → h (fa i) = some (fcc fl fk fd fw fv fa i)) (g_j : h (fa j) = some (12, j, .inr (3, [.int (nI (fd j)), .int (nI (fv j)), va_rf ((lst (lQ fl fk (fl j) (fk j)) j).map fa), .int (nI w)])))
    (bnf : nf ≤ 300) (bla : la ≤ 100000) (bfl : ∀ i, fl i < 30) (bfk : ∀ i, fk i < 6) (bfd : ∀ i, fd i ≤ 100000) (bfw : ∀ i, fw i ≤ 100000) (bfv : ∀ i, fv i ≤ mostN (fk i)) (bw : w ≤ 100000) :
    cFo G h F A fa gq nf (max la w) fl fk fd (va_up fw j w) fv := by
  refine ⟨g_F, g_A, hgq, fun i hi => ?_, bnf, by omega, bfl, bfk, bfd, up_le bfw bw, bfv⟩
  unfold fcc
  by_cases e : i = j
  · subst e
    rw [va_up_self]
    exact g_j
  · rw [va_up_ne fw _ e]
    exact hfa i hi e
theorem f_rfn (C : String) (x : Option Nat) : narrow (.object C) (va_rf x) = va_rf x := by cases x <;> rfl
theorem f_rff (C : String) (x : Option Nat) : fits (.object C) (va_rf x) = true := by cases x <;> rfl
