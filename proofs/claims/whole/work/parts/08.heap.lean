/-! THE HEAP AS A FUNCTION: an address has a role, an owner and contents. Two cells of different roles (or owners) are apart: no lists of places. Role 0: cells that nobody writes. -/
abbrev fC : Type := Nat × Nat × va_E
abbrev fH : Type := Nat → Option fC
def fU (h : fH) (a : Nat) (c : fC) : fH := fun q => if q = a then some c else h q
theorem fU_self (h : fH) (a : Nat) (c : fC) : fU h a c a = some c := by simp [fU]
theorem fU_ne (h : fH) {a q : Nat} (c : fC) (hq : q ≠ a) : fU h a c q = h q := by simp [fU, hq]
theorem fU_uu (h : fH) (a : Nat) (c d : fC) : fU (fU h a c) a d = fU h a d := by
  funext q
  by_cases hq : q = a
  · subst hq; simp [fU]
  · simp [fU, hq]
/-- an array's place, as a value -/
def fEl (x : (Nat → Int32) ⊕ (Nat → Int64) ⊕ (Nat → UInt32) ⊕ (Nat → UInt64) ⊕ (Nat → Option Nat)) (j : Nat) : Value := match x with
  | .inl f => .int (f j)
  | .inr (.inl f) => .long (f j)
  | .inr (.inr (.inl f)) => .float (f j)
  | .inr (.inr (.inr (.inl f))) => .double (f j)
  | .inr (.inr (.inr (.inr f))) => va_rf (f j)
theorem fEl_cell (cA : ClassId) (x : vp_A) : vp_cell cA x = arrV cA x.1 (fEl x.2) := by
  obtain ⟨n, f | f | f | f | f⟩ := x <;> rfl
/-- a cell as it can be read -/
def fW (D : va_G) (cl : List vw_C) (a : Nat) (e : va_E) (H : Heap) : Prop := match e with
  | .inl x => ∃ cell : Cell, H[a]? = some cell ∧ cell.cls = x.1 ∧ cell.vm ≠ .unknown ∧ (∀ k, cell.vm ≠ .statics k) ∧ x.2.1 ≤ cell.slots.size ∧ cell.slots.size.toInt32 = Int32.ofNat x.2.1 ∧ ∀ j : Nat, j < x.2.1 → cell.slots[j]? = some (fEl x.2.2 j)
  | .inr o => ∃ (r : vw_C) (cell : Cell), cl[o.1]? = some r ∧ H[a]? = some cell ∧ cell.cls = D.1 o.1 ∧ cell.vm ≠ .unknown ∧ cell.vm.isStatics = false ∧ ∀ (k : Nat) (v : Value), k < r.2.2 → o.2[k]? = some v → cell.slots[D.2 o.1 k]? = some v
theorem fW.of {D : va_G} {cl : List vw_C} {a : Nat} {e : va_E} {H : Heap} (h : va_at D cl (a, e) H) : fW D cl a e H := by
  cases e with
  | inl x =>
    have h' : H[a]? = some (vp_cell x.1 x.2) := h
    rw [fEl_cell] at h'
    refine ⟨_, h', rfl, (fun q => by cases q), (fun k q => by cases q), ?_, ?_, fun j hj => arrV_read _ _ hj⟩
    · rw [arrV_size]; exact Nat.le_refl _
    · rw [arrV_size] <;> rfl
  | inr o =>
    obtain ⟨r, h1, cell, h2, h3, h4, h5⟩ := h
    exact ⟨r, cell, h1, h2, h3, (by rw [h4]; exact fun q => by cases q), (by rw [h4]; rfl), fun k v hk hv => by rw [h5 k hk]; simp [vp_V, hv]⟩
theorem fW.kept {D : va_G} {cl : List vw_C} {a : Nat} {e : va_E} {H H1 : Heap} (h : fW D cl a e H) (hq : H1[a]? = H[a]?) : fW D cl a e H1 := by
  cases e with
  | inl x =>
    obtain ⟨cell, h1, h2⟩ := h
    exact ⟨cell, by rw [hq]; exact h1, h2⟩
  | inr o =>
    obtain ⟨r, cell, h1, h2, h3⟩ := h
    exact ⟨r, cell, h1, by rw [hq]; exact h2, h3⟩
theorem fW.lt {D : va_G} {cl : List vw_C} {a : Nat} {e : va_E} {H : Heap} (h : fW D cl a e H) : a < H.size := by
  cases e with
  | inl x =>
    obtain ⟨cell, h1, h2⟩ := h
    exact (Array.getElem?_eq_some_iff.mp h1).1
  | inr o =>
    obtain ⟨r, cell, h1, h2, h3⟩ := h
    exact (Array.getElem?_eq_some_iff.mp h2).1
def fP (D : va_G) (cl : List vw_C) (h : fH) (H : Heap) : Prop := ∀ (a : Nat) (c : fC), h a = some c → fW D cl a c.2.2 H ∧ (c.1 ≠ 0 → va_at D cl (a, c.2.2) H)
theorem fP.lt {D : va_G} {cl : List vw_C} {h : fH} {H : Heap} (hP : fP D cl h H) {a : Nat} {c : fC} (ha : h a = some c) : a < H.size := (hP a c ha).1.lt
def fI (D : va_G) (cl : List vw_C) (A : Nat → Prop) (H0 : Heap) (h : fH) (H : Heap) (locs : List Loc) : Prop := fP D cl h H ∧ (∀ (a : Nat) (c : fC), h a = some c → c.1 ≠ 0 → A a) ∧ (∀ q, H0.size ≤ q → A q) ∧ va_S A H0 H locs
theorem fI.set {D : va_G} {cl : List vw_C} {A : Nat → Prop} {H0 H H1 : Heap} {h : fH} {locs : List Loc} {a i r o : Nat} {e0 e : va_E} (hI : fI D cl A H0 h H locs) (ha : h a = some (r, o, e0)) (hr : r ≠ 0) (he : va_at D cl (a, e) H1) (z : H1.size = H.size) (oq : ∀ q : Nat, q ≠ a → H1[q]? = H[q]?) : fI D cl A H0 (fU h a (r, o, e)) H1 (locs ++ [⟨a, i⟩]) := by
  obtain ⟨hP, hA, hN, hS⟩ := hI
  refine ⟨fun q c hq => ?_, fun q c hq hc => ?_, hN, hS.put z oq (hA a _ ha hr)⟩
  · by_cases hqa : q = a
    · subst hqa
      rw [fU_self] at hq
      cases hq
      exact ⟨fW.of he, fun _ => he⟩
    · rw [fU_ne _ _ hqa] at hq
      exact ⟨(hP q c hq).1.kept (oq q hqa), fun hc => ((hP q c hq).2 hc).kept (oq q hqa)⟩
  · by_cases hqa : q = a
    · subst hqa
      exact hA q _ ha hr
    · rw [fU_ne _ _ hqa] at hq
      exact hA q c hq hc
theorem fI.new {D : va_G} {cl : List vw_C} {A : Nat → Prop} {H0 H H1 : Heap} {h : fH} {locs : List Loc} {e : va_E} (r o : Nat) (hI : fI D cl A H0 h H locs) (he : va_at D cl (H.size, e) H1) (z : H1.size = H.size + 1) (oq : ∀ q : Nat, q < H.size → H1[q]? = H[q]?) : fI D cl A H0 (fU h H.size (r, o, e)) H1 locs := by
  obtain ⟨hP, hA, hN, hS⟩ := hI
  refine ⟨fun q c hq => ?_, fun q c hq hc => ?_, hN, ⟨Nat.le_trans hS.1 (by omega), fun x h1 h2 => (oq x (Nat.lt_of_lt_of_le h1 hS.1)).trans (hS.2.1 x h1 h2), hS.2.2⟩⟩
  · by_cases hqa : q = H.size
    · subst hqa
      rw [fU_self] at hq
      cases hq
      exact ⟨fW.of he, fun _ => he⟩
    · rw [fU_ne _ _ hqa] at hq
      have hl := hP.lt hq
      exact ⟨(hP q c hq).1.kept (oq q hl), fun hc => ((hP q c hq).2 hc).kept (oq q hl)⟩
  · by_cases hqa : q = H.size
    · subst hqa
      exact hN _ hS.1
    · rw [fU_ne _ _ hqa] at hq
      exact hA q c hq hc
theorem fI.none {D : va_G} {cl : List vw_C} {A : Nat → Prop} {H0 H : Heap} {h : fH} {locs : List Loc} (hI : fI D cl A H0 h H locs) : h H.size = none := by
  cases hq : h H.size with
  | none => rfl
  | some c => exact absurd (hI.1.lt hq) (Nat.lt_irrefl _)
theorem fI.lt {D : va_G} {cl : List vw_C} {A : Nat → Prop} {H0 H : Heap} {h : fH} {locs : List Loc} (hI : fI D cl A H0 h H locs) {a : Nat} {c : fC} (ha : h a = some c) : a < H.size := hI.1.lt ha
/-- two cells that tell apart are apart -/
theorem f_ne {h : fH} {a b : Nat} {x y : fC} (ha : h a = some x) (hb : h b = some y) (hne : x ≠ y) : a ≠ b := fun q => hne (Option.some.inj (ha.symm.trans (by rw [q]; exact hb)))
theorem f_neR {h : fH} {a b r o r2 o2 : Nat} {x y : va_E} (ha : h a = some (r, o, x)) (hb : h b = some (r2, o2, y)) (hne : r ≠ r2) : a ≠ b := f_ne ha hb (fun q => hne (by cases q; rfl))
theorem f_neO {h : fH} {a b r o r2 o2 : Nat} {x y : va_E} (ha : h a = some (r, o, x)) (hb : h b = some (r2, o2, y)) (hne : o ≠ o2) : a ≠ b := f_ne ha hb (fun q => hne (by cases q; rfl))
theorem f_neN {h : fH} {a b : Nat} {x : fC} (ha : h a = some x) (hb : h b = none) : a ≠ b := fun q => by rw [q, hb] at ha; cases ha
theorem fU_keep {h : fH} {a q : Nat} {c x : fC} (hq : h q = some x) (hne : q ≠ a) : fU h a c q = some x := by rw [fU_ne _ _ hne]; exact hq
/-- what a method leaves behind: old cells stay in their roles, new ones are new -/
def fA (h : fH) (sz : Nat) : Nat → Prop := fun q => (∃ c : fC, h q = some c ∧ c.1 ≠ 0) ∨ sz ≤ q
def fX (h : fH) (sz : Nat) (h' : fH) : Prop := (∀ (a o : Nat) (e : va_E), h a = some (0, o, e) → h' a = some (0, o, e)) ∧ ∀ (a : Nat) (c : fC), h' a = some c → c.1 ≠ 0 → (∃ c' : fC, h a = some c' ∧ c'.1 ≠ 0) ∨ sz ≤ a
theorem fX.rf {h : fH} {sz : Nat} : fX h sz h := ⟨fun _ _ _ h => h, fun a c ha hc => Or.inl ⟨c, ha, hc⟩⟩
theorem fX.tr {h h1 h2 : fH} {sz sz1 : Nat} (hz : sz ≤ sz1) (x : fX h sz h1) (y : fX h1 sz1 h2) : fX h sz h2 := by
  refine ⟨fun a o e ha => y.1 a o e (x.1 a o e ha), fun a c ha hc => ?_⟩
  rcases y.2 a c ha hc with ⟨c1, q1, q2⟩ | q
  · exact x.2 a c1 q1 q2
  · exact Or.inr (Nat.le_trans hz q)
theorem fX.set {h h1 : fH} {sz a r o : Nat} {e0 e : va_E} (x : fX h sz h1) (ha : h1 a = some (r, o, e0)) (hr : r ≠ 0) : fX h sz (fU h1 a (r, o, e)) := by
  refine ⟨fun q o2 e2 hq => ?_, fun q c hq hc => ?_⟩
  · have h2 := x.1 _ _ _ hq
    exact fU_keep h2 (f_neR h2 ha (fun z => hr z.symm))
  · by_cases hqa : q = a
    · subst hqa
      exact x.2 _ _ ha hr
    · rw [fU_ne _ _ hqa] at hq
      exact x.2 _ _ hq hc
theorem fX.new {h h1 : fH} {sz a r o : Nat} {e : va_E} (x : fX h sz h1) (ha : h1 a = none) (hz : sz ≤ a) : fX h sz (fU h1 a (r, o, e)) := by
  refine ⟨fun q o2 e2 hq => ?_, fun q c hq hc => ?_⟩
  · have h2 := x.1 _ _ _ hq
    exact fU_keep h2 (f_neN h2 ha)
  · by_cases hqa : q = a
    · exact Or.inr (by omega)
    · rw [fU_ne _ _ hqa] at hq
      exact x.2 _ _ hq hc
/-- cells may be forgotten, and given other roles -/
def fV (h h' : fH) : Prop := (∀ (a : Nat) (c' : fC), h' a = some c' → ∃ c : fC, h a = some c ∧ c.2.2 = c'.2.2 ∧ (c.1 = 0 ↔ c'.1 = 0)) ∧ ∀ (a o : Nat) (e : va_E), h a = some (0, o, e) → h' a = some (0, o, e)
theorem fI.view {D : va_G} {cl : List vw_C} {A : Nat → Prop} {H0 H : Heap} {h h' : fH} {locs : List Loc} (hI : fI D cl A H0 h H locs) (v : fV h h') : fI D cl A H0 h' H locs := by
  obtain ⟨hP, hA, hN, hS⟩ := hI
  refine ⟨fun a c' ha => ?_, fun a c' ha hc => ?_, hN, hS⟩
  · obtain ⟨c, h1, h2, h3⟩ := v.1 a c' ha
    rw [← h2]
    exact ⟨(hP a c h1).1, fun hc => (hP a c h1).2 (fun z => hc (h3.mp z))⟩
  · obtain ⟨c, h1, h2, h3⟩ := v.1 a c' ha
    exact hA a c h1 (fun z => hc (h3.mp z))
theorem fX.view {h h1 h2 : fH} {sz : Nat} (x : fX h sz h1) (v : fV h1 h2) : fX h sz h2 := by
  refine ⟨fun a o e ha => v.2 a o e (x.1 a o e ha), fun a c ha hc => ?_⟩
  obtain ⟨c1, q1, q2, q3⟩ := v.1 a c ha
  exact x.2 a c1 q1 (fun z => hc (q3.mp z))
/-- cells whose role and owner are not in S stay as they are -/
def fF (S : Nat → Nat → Prop) (h h' : fH) : Prop := ∀ (a r o : Nat) (e : va_E), h a = some (r, o, e) → ¬ S r o → h' a = some (r, o, e)
abbrev inR (L : List Nat) : Nat → Nat → Prop := fun r _ => r ∈ L
abbrev inO (L : List Nat) (o0 : Nat) : Nat → Nat → Prop := fun r o => r ∈ L ∧ o = o0
theorem fF.rf {S : Nat → Nat → Prop} {h : fH} : fF S h h := fun _ _ _ _ ha _ => ha
theorem fF.tr {S : Nat → Nat → Prop} {h h1 h2 : fH} (x : fF S h h1) (y : fF S h1 h2) : fF S h h2 := fun a r o e ha hr => y a r o e (x a r o e ha hr) hr
theorem fF.mono {S S' : Nat → Nat → Prop} {h h1 : fH} (x : fF S h h1) (hs : ∀ r o, S r o → S' r o) : fF S' h h1 := fun a r o e ha hr => x a r o e ha (fun q => hr (hs r o q))
theorem fF.set {S : Nat → Nat → Prop} {h h1 : fH} {a r o : Nat} {e0 e : va_E} (x : fF S h h1) (ha : h1 a = some (r, o, e0)) (hr : S r o) : fF S h (fU h1 a (r, o, e)) := by
  intro q r2 o2 e2 hq hr2
  have h2 := x q r2 o2 e2 hq hr2
  exact fU_keep h2 (f_ne h2 ha (fun z => by cases z; exact hr2 hr))
theorem fF.new {S : Nat → Nat → Prop} {h h1 : fH} {a : Nat} {c : fC} (x : fF S h h1) (ha : h1 a = none) : fF S h (fU h1 a c) := by
  intro q r2 o2 e2 hq hr2
  have h2 := x q r2 o2 e2 hq hr2
  exact fU_keep h2 (f_neN h2 ha)
/-- an object of many fields, as a function of their places -/
def mo (mf : Nat → Value) : List Value := (List.range 40).map mf
theorem mo_get {mf : Nat → Value} {k : Nat} {v : Value} (hk : k < 40) (h : mf k = v) : (mo mf)[k]? = some v := by
  simp [mo, hk, h]
theorem mo_len (mf : Nat → Value) : (mo mf).length = 40 := by simp [mo]
theorem mo_set {mf : Nat → Value} {k : Nat} (v : Value) : (mo mf).set k v = mo (va_up mf k v) := by
  apply List.ext_getElem?
  intro j
  by_cases hj : j < 40
  · by_cases hjk : k = j
    · subst hjk
      rw [List.getElem?_set_self (by rw [mo_len]; exact hj), mo_get hj (va_up_self mf k v)]
    · rw [List.getElem?_set_ne hjk, mo_get hj rfl, mo_get hj (va_up_ne mf v (Ne.symm hjk))]
  · rw [List.getElem?_eq_none (by rw [List.length_set, mo_len]; omega), List.getElem?_eq_none (by rw [mo_len]; omega)]
/-- an array class by its number -/
def fT (U : State) (cA : ClassId) (ty : FieldType) : Prop := ∃ k, U.vm.classes[cA]? = some k ∧ ∃ comp, k.kind = .array comp ty
theorem fT.moved {u U : State} (hvm : u.vm.Alike U.vm) {cA : ClassId} {ty : FieldType} (h : fT u cA ty) : fT U cA ty := by
  obtain ⟨k, h1, comp, h2⟩ := h
  obtain ⟨k', hk', he⟩ := hvm.2.2 _ _ h1
  exact ⟨k', hk', comp, by rw [he]; exact h2⟩
theorem fT.ofK {D : va_G} {cl : List vw_C} {tys : List (ClassId × FieldType)} {U : State} (hK : va_K D cl tys U) {t0 : Nat} {cA : ClassId} {ty : FieldType} (ht : tys[t0]? = some (cA, ty)) : fT U cA ty := ((hK.2 t0 _ ht).1 0 (fun _ => .null)).2
theorem fT.arr {U : State} {cA : ClassId} {ty : FieldType} (h : fT U cA ty) {cell : Cell} (hc : cell.cls = cA) (hs : ∀ k, cell.vm ≠ .statics k) : U.isArrayOf cell ty := ⟨hs, by rw [hc]; exact h⟩
section FR
variable {p : Program} {l : Launch} {e : Env} {R : Room} {s : State} {m : MethodId} {args : Array Value} {below : List Frame} {meth : Method} {c : Code} {H : Heap} {locs : List Loc} {cells slots : Nat} {Q : State → Prop}
variable {cc : ByteArray} {pc : Nat} {ls : Array Slot} {rest : List Value} {D : va_G} {cl : List vw_C} {A : Nat → Prop} {a r o : Nat} {tys : List (ClassId × FieldType)} {h : fH} {H0 : Heap}
theorem f_get (hexec : p.tables.exec = Jvm.exec) (hb : c.code = cc) {own ref C : String} {T : u_T} {N ci index : Nat} (hts : ∀ w ∈ u_ws C T N, w.before args s = true) (hown : s.vm.findClass own = some m.cls) (hK : va_K D cl tys s) (hI : fI D cl A H0 h H locs) {fs : List Value} (he : h a = some (r, o, .inr (ci, fs))) (hc : cl[ci]? = some (C, T, N)) (k : Nat) (hk : k < N) (hlink : (Cond.fieldLink own index ref (T k).2.1 (T k).2.2.1).before args s = true) (hsame : ∀ x, s.fieldFound? (T k).1 (T k).2.1 (T k).2.2.1 = some x → s.fieldFound? ref (T k).2.1 (T k).2.2.1 = some x) {v : Value} (hv : fs[k]? = some v) (hdg : decode cc pc = .ok (.getfield index, 3))
    (kk : W p l e R s m args below meth c H locs cells slots Q (F0 m (pc + 3) ls (v :: rest))) : W p l e R s m args below meth c H locs cells slots Q (F0 m pc ls (.ref a :: rest)) := by
  obtain ⟨r', cell, h1, q1, q2, q3, q5, q4⟩ := (hI.1 a _ he).1
  have hr : r' = (C, T, N) := Option.some.inj (h1.symm.trans hc)
  subst hr
  obtain ⟨hS, hfc, kC, hkC, hkind⟩ := hK.1 ci _ hc
  obtain ⟨cf, kf, fi, f, hi, hsl⟩ := hS k hk
  refine W.getf hexec hb hown hlink (hsame _ hi) (u_facts hfc hkC (u_lays hts (fun _ h => h) hk) hi).1 q1 q3 (v := v) ?_ rfl rfl hdg kk
  rw [hsl]
  exact q4 k v hk hv
theorem f_getN (hexec : p.tables.exec = Jvm.exec) (hb : c.code = cc) {own ref C host : String} {T : u_T} {N ci index : Nat} (hts : ∀ w ∈ u_ws C T N, w.before args s = true) (hown : s.vm.findClass own = some m.cls) (hK : va_K D cl tys s) (hI : fI D cl A H0 h H locs) {fs : List Value} (he : h a = some (r, o, .inr (ci, fs))) (hc : cl[ci]? = some (C, T, N)) (k : Nat) (hk : k < N) (hlink : va_Nw (.fieldLinkNest own index ref (T k).2.1 (T k).2.2.1 host) s) (hsame : ∀ x, s.fieldFound? (T k).1 (T k).2.1 (T k).2.2.1 = some x → s.fieldFound? ref (T k).2.1 (T k).2.2.1 = some x) {v : Value} (hv : fs[k]? = some v) (hdg : decode cc pc = .ok (.getfield index, 3))
    (kk : W p l e R s m args below meth c H locs cells slots Q (F0 m (pc + 3) ls (v :: rest))) : W p l e R s m args below meth c H locs cells slots Q (F0 m pc ls (.ref a :: rest)) := by
  obtain ⟨r', cell, h1, q1, q2, q3, q5, q4⟩ := (hI.1 a _ he).1
  have hr : r' = (C, T, N) := Option.some.inj (h1.symm.trans hc)
  subst hr
  obtain ⟨hS, hfc, kC, hkC, hkind⟩ := hK.1 ci _ hc
  obtain ⟨cf, kf, fi, f, hi, hsl⟩ := hS k hk
  refine va_Wgetf hexec hb hown (va_Nw.use rfl hlink) (hsame _ hi) (u_facts hfc hkC (u_lays hts (fun _ h => h) hk) hi).1 q1 q3 (v := v) ?_ rfl rfl hdg kk
  rw [hsl]
  exact q4 k v hk hv
theorem f_put (hexec : p.tables.exec = Jvm.exec) (hb : c.code = cc) {own ref C : String} {T : u_T} {N ci index : Nat} (hts : ∀ w ∈ u_ws C T N, w.before args s = true) (ty0 : Nat → FieldType) (hty : ∀ k, k < N → parseFieldDescriptor (T k).2.2.1 = some (ty0 k)) (hnm : ∀ a, a < N → ∀ b, b < N → a ≠ b → (T a).2.1 ≠ (T b).2.1) (hown : s.vm.findClass own = some m.cls) (hK : va_K D cl tys s) (hI : fI D cl A H0 h H locs) {fs : List Value} (he : h a = some (r, o, .inr (ci, fs))) (hr0 : r ≠ 0) (hc : cl[ci]? = some (C, T, N)) (k : Nat) (hk : k < N) (hlink : (Cond.fieldLink own index ref (T k).2.1 (T k).2.2.1).before args s = true) (hsame : ∀ x, s.fieldFound? (T k).1 (T k).2.1 (T k).2.2.1 = some x → s.fieldFound? ref (T k).2.1 (T k).2.2.1 = some x) (hfin : (T k).2.2.2 = false) {v : Value} (hn : narrow (ty0 k) v = v) (hfit : fits (ty0 k) v = true) (hl : k < fs.length) {fs' : List Value} (hfs : fs.set k v = fs')
    (hdg : decode cc pc = .ok (.putfield index, 3)) (kk : ∀ (H : Heap) (locs : List Loc), fI D cl A H0 (fU h a (r, o, .inr (ci, fs'))) H locs → W p l e R s m args below meth c H locs cells slots Q (F0 m (pc + 3) ls rest)) : W p l e R s m args below meth c H locs cells slots Q (F0 m pc ls (v :: .ref a :: rest)) := by
  subst hfs
  have hap := va_apart (own := own) hts (fun _ h => h) ty0 hty hnm hK hc
  obtain ⟨r', h1, cell, q1, q2, q3, q4⟩ := (hI.1 a _ he).2 hr0
  have hr : r' = (C, T, N) := Option.some.inj (h1.symm.trans hc)
  subst hr
  obtain ⟨hS, hfc, kC, hkC, hkind⟩ := hK.1 ci _ hc
  obtain ⟨cf, kf, fi, f, hi, hsl⟩ := hS k hk
  have hlay := hts _ (u_in_lay hk)
  unfold u_lay at hlay
  rw [if_neg (by rw [hfin]; decide)] at hlay
  have hst := (u_facts hfc hkC (u_lays hts (fun _ h => h) hk) hi).1
  have h6 := u_store hfc hkC hkind hlay hi (hty k hk) hn hfit
  refine W.putK hexec hb (f := f) ⟨hown, hlink, ⟨_, _, _, hsame _ hi⟩, hst⟩ (by rw [q2]; exact h6) q1 q3 (by rw [hsl]; exact k2_hasslot (q4 k hk)) rfl rfl hdg fun H' e1 e2 e3 => ?_
  rw [hsl] at e1 ⊢
  exact kk H' _ (hI.set he hr0 ⟨_, hc, t_OB.to (V := updV (vp_V fs) k v) ⟨_, e1, q2, q3, t_set q4 hap hk v⟩ (fun j _ => vp_updV_set hl v j)⟩ e2 e3)
theorem f_putN (hexec : p.tables.exec = Jvm.exec) (hb : c.code = cc) {own ref C host : String} {T : u_T} {N ci index : Nat} (hts : ∀ w ∈ u_ws C T N, w.before args s = true) (ty0 : Nat → FieldType) (hty : ∀ k, k < N → parseFieldDescriptor (T k).2.2.1 = some (ty0 k)) (hnm : ∀ a, a < N → ∀ b, b < N → a ≠ b → (T a).2.1 ≠ (T b).2.1) (hown : s.vm.findClass own = some m.cls) (hK : va_K D cl tys s) (hI : fI D cl A H0 h H locs) {fs : List Value} (he : h a = some (r, o, .inr (ci, fs))) (hr0 : r ≠ 0) (hc : cl[ci]? = some (C, T, N)) (k : Nat) (hk : k < N) (hlink : va_Nw (.fieldLinkNest own index ref (T k).2.1 (T k).2.2.1 host) s) (hsame : ∀ x, s.fieldFound? (T k).1 (T k).2.1 (T k).2.2.1 = some x → s.fieldFound? ref (T k).2.1 (T k).2.2.1 = some x) (hfin : (T k).2.2.2 = false) {v : Value} (hn : narrow (ty0 k) v = v) (hfit : fits (ty0 k) v = true) (hl : k < fs.length) {fs' : List Value} (hfs : fs.set k v = fs')
    (hdg : decode cc pc = .ok (.putfield index, 3)) (kk : ∀ (H : Heap) (locs : List Loc), fI D cl A H0 (fU h a (r, o, .inr (ci, fs'))) H locs → W p l e R s m args below meth c H locs cells slots Q (F0 m (pc + 3) ls rest)) : W p l e R s m args below meth c H locs cells slots Q (F0 m pc ls (v :: .ref a :: rest)) := by
  subst hfs
  have hap := va_apart (own := own) hts (fun _ h => h) ty0 hty hnm hK hc
  obtain ⟨r', h1, cell, q1, q2, q3, q4⟩ := (hI.1 a _ he).2 hr0
  have hr : r' = (C, T, N) := Option.some.inj (h1.symm.trans hc)
  subst hr
  obtain ⟨hS, hfc, kC, hkC, hkind⟩ := hK.1 ci _ hc
  obtain ⟨cf, kf, fi, f, hi, hsl⟩ := hS k hk
  have hlay := hts _ (u_in_lay hk)
  unfold u_lay at hlay
  rw [if_neg (by rw [hfin]; decide)] at hlay
  have hst := (u_facts hfc hkC (u_lays hts (fun _ h => h) hk) hi).1
  have h6 := u_store hfc hkC hkind hlay hi (hty k hk) hn hfit
  refine va_WputK hexec hb (f := f) hown (va_Nw.use rfl hlink) (hsame _ hi) hst (by rw [q2]; exact h6) q1 q3 (by rw [hsl]; exact k2_hasslot (q4 k hk)) rfl rfl hdg fun H' e1 e2 e3 => ?_
  rw [hsl] at e1 ⊢
  exact kk H' _ (hI.set he hr0 ⟨_, hc, t_OB.to (V := updV (vp_V fs) k v) ⟨_, e1, q2, q3, t_set q4 hap hk v⟩ (fun j _ => vp_updV_set hl v j)⟩ e2 e3)
theorem f_putF (hexec : p.tables.exec = Jvm.exec) (hb : c.code = cc) {own ref C : String} {T : u_T} {N ci index : Nat} (hts : ∀ w ∈ u_ws C T N, w.before args s = true) (ty0 : Nat → FieldType) (hty : ∀ k, k < N → parseFieldDescriptor (T k).2.2.1 = some (ty0 k)) (hnm : ∀ a, a < N → ∀ b, b < N → a ≠ b → (T a).2.1 ≠ (T b).2.1) (hown : s.vm.findClass own = some m.cls) (hK : va_K D cl tys s) (hI : fI D cl A H0 h H locs) {fs : List Value} (he : h a = some (r, o, .inr (ci, fs))) (hr0 : r ≠ 0) (hc : cl[ci]? = some (C, T, N)) (k : Nat) (hk : k < N) (hlink : (Cond.fieldLink own index ref (T k).2.1 (T k).2.2.1).before args s = true) (hsame : ∀ x, s.fieldFound? (T k).1 (T k).2.1 (T k).2.2.1 = some x → s.fieldFound? ref (T k).2.1 (T k).2.2.1 = some x) (hfin : (T k).2.2.2 = true) (hin2 : meth.name = "<init>") (hdecl : (T k).1 = own) {v : Value} (hn : narrow (ty0 k) v = v) (hfit : fits (ty0 k) v = true) (hl : k < fs.length) {fs' : List Value} (hfs : fs.set k v = fs')
    (hdg : decode cc pc = .ok (.putfield index, 3)) (kk : ∀ (H : Heap) (locs : List Loc), fI D cl A H0 (fU h a (r, o, .inr (ci, fs'))) H locs → W p l e R s m args below meth c H locs cells slots Q (F0 m (pc + 3) ls rest)) : W p l e R s m args below meth c H locs cells slots Q (F0 m pc ls (v :: .ref a :: rest)) := by
  subst hfs
  have hap := va_apart (own := own) hts (fun _ h => h) ty0 hty hnm hK hc
  obtain ⟨r', h1, cell, q1, q2, q3, q4⟩ := (hI.1 a _ he).2 hr0
  have hr : r' = (C, T, N) := Option.some.inj (h1.symm.trans hc)
  subst hr
  obtain ⟨hS, hfc, kC, hkC, hkind⟩ := hK.1 ci _ hc
  obtain ⟨cf, kf, fi, f, hi, hsl⟩ := hS k hk
  have hlay := hts _ (u_in_lay hk)
  unfold u_lay at hlay
  rw [if_pos hfin] at hlay
  have hst := (u_facts hfc hkC (u_lays hts (fun _ h => h) hk) hi).1
  have hcf : m.cls = cf := by
    obtain ⟨_, _, c', _, _, _, -, -, hf', -, -, -, hown2, -⟩ := Cond.laysFinal_spec hlay
    have e1 : c' = cf := by have := hi.symm.trans hf'; simp at this; exact this.1.symm
    rw [hdecl] at hown2
    rw [← e1]; exact Option.some.inj (hown.symm.trans hown2)
  have h6 := u_fits hfc hkC hkind (Or.inr hlay) hi (hty k hk) hn hfit
  refine W.putFinK hexec hb hown hlink (hsame _ hi) hst hcf hin2 (by rw [q2]; exact h6) q1 q3 (by rw [hsl]; exact k2_hasslot (q4 k hk)) rfl rfl hdg fun H' e1 e2 e3 => ?_
  rw [hsl] at e1 ⊢
  exact kk H' _ (hI.set he hr0 ⟨_, hc, t_OB.to (V := updV (vp_V fs) k v) ⟨_, e1, q2, q3, t_set q4 hap hk v⟩ (fun j _ => vp_updV_set hl v j)⟩ e2 e3)
theorem f_new {c0 : Code} (hexec : p.tables.exec = Jvm.exec) (hb : c0.code = cc) {own C : String} {T : u_T} {N ci index : Nat} (hts : ∀ w ∈ u_ws C T N, w.before args s = true) (ty : Nat → FieldType) (hty : ∀ k, k < N → parseFieldDescriptor (T k).2.2.1 = some (ty k)) (hown : s.vm.findClass own = some m.cls) (hcl : (Cond.classLink own index C).before args s = true) {N2 : Nat} (hinst : (Cond.instantiable C N2).before args s = true) (hini : (Cond.initialized C).before args s = true)
    (hK : va_K D cl tys s) (hI : fI D cl A H0 h H locs) (hc : cl[ci]? = some (C, T, N)) {fs : List Value} (hfs : ∀ j, j < N → defaultValue (ty j) = vp_V fs j) (r o : Nat) (hcells : cells + 1 ≤ R.cells) (hslots : slots + N2 ≤ R.slots) (hdg : decode cc pc = .ok (.new index, 3))
    (kk : ∀ (q : Nat) (H1 : Heap), q = H.size → H1.size = H.size + 1 → h q = none → fI D cl A H0 (fU h q (r, o, .inr (ci, fs))) H1 locs →
      W p l e R s m args below meth c0 H1 locs (cells + 1) (slots + N2) Q (F0 m (pc + 3) ls (.ref q :: rest))) : W p l e R s m args below meth c0 H locs cells slots Q (F0 m pc ls rest) := by
  have hKn := hK.1 ci _ hc
  refine W.newcK hexec hb hown hcl hinst hini rfl hdg hcells hslots hKn.2.1 rfl fun H1 kC hkC e1 z1 o1 => ?_
  exact kk H.size H1 rfl z1 hI.none (hI.new r o ⟨_, hc, (u_born ty hts (fun _ h => h) hKn hkC e1 hty).to hfs⟩ z1 o1)
theorem f_newa (hexec : p.tables.exec = Jvm.exec) (hb : c.code = cc) {atype : ArrayType} (harr : (Cond.arrayClass (newarray.typeOf atype)).before args s = true) {ty : FieldType} (hty : newarray.typeOf atype = ty) (hI : fI D cl A H0 h H locs) {cA : ClassId} (hcA : s.vm.findClass ("[" ++ ty.toString) = some cA)
    {n : Int32} {N' : Nat} {a0 : vp_A} (ha : vp_cell cA a0 = arrV cA N' (fun _ => defaultValue ty)) (hn : ¬ n < 0) (hN : n.toNatClampNeg = N') (hbytes : N' * componentBytes ty ≤ 536870912) (r o : Nat) (hcells : cells + 1 ≤ R.cells) (hslots : slots + N' ≤ R.slots) (hdg : decode cc pc = .ok (.newarray atype, 2))
    (kk : ∀ (q : Nat) (H1 : Heap), q = H.size → H1.size = H.size + 1 → h q = none → fI D cl A H0 (fU h q (r, o, .inl (cA, a0))) H1 locs →
      W p l e R s m args below meth c H1 locs (cells + 1) (slots + N') Q (F0 m (pc + 2) ls (.ref q :: rest))) : W p l e R s m args below meth c H locs cells slots Q (F0 m pc ls (.int n :: rest)) := by
  subst hty
  refine va_newaK hexec hb harr rfl hdg rfl hn hN hbytes hcells hslots rfl fun H1 cA' e1 z1 o1 hAr hNm => ?_
  have he : cA' = cA := Option.some.inj (hNm.symm.trans hcA)
  subst he
  refine kk H.size H1 rfl z1 hI.none (hI.new r o ?_ z1 o1)
  show H1[H.size]? = some (vp_cell _ _)
  rw [ha]
  exact e1
theorem f_newq (hexec : p.tables.exec = Jvm.exec) (hb : c.code = cc) {own C : String} {index : Nat} (hown : s.vm.findClass own = some m.cls) (hclink : (Cond.classLink own index C).before args s = true) (hover : va_AO C s) (hI : fI D cl A H0 h H locs) {cA : ClassId} (hcA : s.vm.findClass ("[" ++ (FieldType.object C).toString) = some cA)
    {n : Int32} {N' : Nat} (hn : ¬ n < 0) (hN : n.toNatClampNeg = N') (hbytes : N' * 4 ≤ 536870912) (r o : Nat) (hcells : cells + 1 ≤ R.cells) (hslots : slots + N' ≤ R.slots) (hdg : decode cc pc = .ok (.anewarray index, 3))
    (kk : ∀ (q : Nat) (H1 : Heap), q = H.size → H1.size = H.size + 1 → h q = none → fI D cl A H0 (fU h q (r, o, .inl (cA, N', .inr (.inr (.inr (.inr (fun _ => none))))))) H1 locs →
      W p l e R s m args below meth c H1 locs (cells + 1) (slots + N') Q (F0 m (pc + 3) ls (.ref q :: rest))) : W p l e R s m args below meth c H locs cells slots Q (F0 m pc ls (.int n :: rest)) := by
  subst hN
  refine W.anew hexec hb hown hclink (va_AO.use hover) rfl hdg rfl hn hbytes hcells hslots fun cA' kA comp f1 f2 f3 f4 => ?_
  have he : cA' = cA := Option.some.inj (f1.symm.trans hcA)
  subst he
  generalize hH1 : H.push ({ cls := cA', slots := Array.replicate n.toNatClampNeg .null, vm := .none } : Cell) = H1
  have z1 : H1.size = H.size + 1 := by rw [← hH1, Array.size_push]
  have e1 : H1[H.size]? = some (arrV cA' n.toNatClampNeg (fun _ => .null)) := by rw [← hH1, Array.getElem?_push_size, ← arrV_new]
  have o1 : ∀ q : Nat, q < H.size → H1[q]? = H[q]? := fun q hq => by rw [← hH1, Array.getElem?_push, if_neg (Nat.ne_of_lt hq)]
  refine kk H.size H1 rfl z1 hI.none (hI.new r o ?_ z1 o1)
  show H1[H.size]? = some (vp_cell _ _)
  rw [vp_cell_q]
  exact e1
theorem f_alen (hexec : p.tables.exec = Jvm.exec) (hb : c.code = cc) (hI : fI D cl A H0 h H locs) {cA : ClassId} {x : vp_A} (ha : h a = some (r, o, .inl (cA, x))) {ty : FieldType} (ht : fT s cA ty) {v : Int32} (hv : Int32.ofNat x.1 = v) (hdg : decode cc pc = .ok (.arraylength, 1))
    (kk : W p l e R s m args below meth c H locs cells slots Q (F0 m (pc + 1) ls (.int v :: rest))) : W p l e R s m args below meth c H locs cells slots Q (F0 m pc ls (.ref a :: rest)) := by
  subst hv
  obtain ⟨cell, h1, h2, h3, h4, h5, h6, h7⟩ := (hI.1 a _ ha).1
  exact W.alen hexec hb h1 (ht.arr h2 h4) h6 rfl rfl hdg kk
theorem f_in {n k : Nat} {i : Int32} (hin : vp_in i n) (hk : n ≤ k) : ¬ (i < 0 ∨ k ≤ i.toNatClampNeg) := fun q => hin (q.imp id (fun z => Nat.le_trans hk z))
theorem f_inl {n : Nat} {i : Int32} (hin : vp_in i n) : i.toNatClampNeg < n := Nat.not_le.mp fun q => hin (Or.inr q)
theorem f_iald (hexec : p.tables.exec = Jvm.exec) (hb : c.code = cc) (hI : fI D cl A H0 h H locs) {cA : ClassId} {n : Nat} {f : Nat → Int32} (ha : h a = some (r, o, .inl (cA, n, .inl f))) (ht : fT s cA .int) {i : Int32} (hin : vp_in i n) (hdg : decode cc pc = .ok (.iaload, 1))
    (kk : W p l e R s m args below meth c H locs cells slots Q (F0 m (pc + 1) ls (.int (f i.toNatClampNeg) :: rest))) : W p l e R s m args below meth c H locs cells slots Q (F0 m pc ls (.int i :: .ref a :: rest)) := by
  obtain ⟨cell, h1, h2, h3, h4, h5, h6, h7⟩ := (hI.1 a _ ha).1
  exact W.iald (v := .int (f i.toNatClampNeg)) hexec hb h1 (ht.arr h2 h4) h3 (f_in hin h5) (h7 _ (f_inl hin)) rfl rfl hdg kk
theorem f_bald (hexec : p.tables.exec = Jvm.exec) (hb : c.code = cc) (hI : fI D cl A H0 h H locs) {cA : ClassId} {n : Nat} {f : Nat → Int32} (ha : h a = some (r, o, .inl (cA, n, .inl f))) (ht : fT s cA .byte) {i : Int32} (hin : vp_in i n) (hdg : decode cc pc = .ok (.baload, 1))
    (kk : W p l e R s m args below meth c H locs cells slots Q (F0 m (pc + 1) ls (.int (f i.toNatClampNeg) :: rest))) : W p l e R s m args below meth c H locs cells slots Q (F0 m pc ls (.int i :: .ref a :: rest)) := by
  obtain ⟨cell, h1, h2, h3, h4, h5, h6, h7⟩ := (hI.1 a _ ha).1
  exact W.bald (v := .int (f i.toNatClampNeg)) hexec hb h1 (ht.arr h2 h4) h3 (f_in hin h5) (h7 _ (f_inl hin)) rfl rfl hdg kk
theorem f_zald (hexec : p.tables.exec = Jvm.exec) (hb : c.code = cc) (hI : fI D cl A H0 h H locs) {cA : ClassId} {n : Nat} {f : Nat → Int32} (ha : h a = some (r, o, .inl (cA, n, .inl f))) (ht : fT s cA .boolean) {i : Int32} (hin : vp_in i n) (hdg : decode cc pc = .ok (.baload, 1))
    (kk : W p l e R s m args below meth c H locs cells slots Q (F0 m (pc + 1) ls (.int (f i.toNatClampNeg) :: rest))) : W p l e R s m args below meth c H locs cells slots Q (F0 m pc ls (.int i :: .ref a :: rest)) := by
  obtain ⟨cell, h1, h2, h3, h4, h5, h6, h7⟩ := (hI.1 a _ ha).1
  exact W.zald (v := .int (f i.toNatClampNeg)) hexec hb h1 (ht.arr h2 h4) h3 (f_in hin h5) (h7 _ (f_inl hin)) rfl rfl hdg kk
theorem f_cald (hexec : p.tables.exec = Jvm.exec) (hb : c.code = cc) (hI : fI D cl A H0 h H locs) {cA : ClassId} {n : Nat} {f : Nat → Int32} (ha : h a = some (r, o, .inl (cA, n, .inl f))) (ht : fT s cA .char) {i : Int32} (hin : vp_in i n) (hdg : decode cc pc = .ok (.caload, 1))
    (kk : W p l e R s m args below meth c H locs cells slots Q (F0 m (pc + 1) ls (.int (f i.toNatClampNeg) :: rest))) : W p l e R s m args below meth c H locs cells slots Q (F0 m pc ls (.int i :: .ref a :: rest)) := by
  obtain ⟨cell, h1, h2, h3, h4, h5, h6, h7⟩ := (hI.1 a _ ha).1
  exact W.cald (v := .int (f i.toNatClampNeg)) hexec hb h1 (ht.arr h2 h4) h3 (f_in hin h5) (h7 _ (f_inl hin)) rfl rfl hdg kk
theorem f_lald (hexec : p.tables.exec = Jvm.exec) (hb : c.code = cc) (hI : fI D cl A H0 h H locs) {cA : ClassId} {n : Nat} {f : Nat → Int64} (ha : h a = some (r, o, .inl (cA, n, .inr (.inl f)))) (ht : fT s cA .long) {i : Int32} (hin : vp_in i n) (hdg : decode cc pc = .ok (.laload, 1))
    (kk : W p l e R s m args below meth c H locs cells slots Q (F0 m (pc + 1) ls (.long (f i.toNatClampNeg) :: rest))) : W p l e R s m args below meth c H locs cells slots Q (F0 m pc ls (.int i :: .ref a :: rest)) := by
  obtain ⟨cell, h1, h2, h3, h4, h5, h6, h7⟩ := (hI.1 a _ ha).1
  exact W.lald (v := .long (f i.toNatClampNeg)) hexec hb h1 (ht.arr h2 h4) h3 (f_in hin h5) (h7 _ (f_inl hin)) rfl rfl hdg kk
theorem f_aald (hexec : p.tables.exec = Jvm.exec) (hb : c.code = cc) (hI : fI D cl A H0 h H locs) {cA : ClassId} {C : String} {n : Nat} {f : Nat → Option Nat} (ha : h a = some (r, o, .inl (cA, n, .inr (.inr (.inr (.inr f)))))) (ht : fT s cA (.object C)) {i : Int32} (hin : vp_in i n) (hdg : decode cc pc = .ok (.aaload, 1))
    (kk : W p l e R s m args below meth c H locs cells slots Q (F0 m (pc + 1) ls (va_rf (f i.toNatClampNeg) :: rest))) : W p l e R s m args below meth c H locs cells slots Q (F0 m pc ls (.int i :: .ref a :: rest)) := by
  obtain ⟨cell, h1, h2, h3, h4, h5, h6, h7⟩ := (hI.1 a _ ha).1
  exact W.aald (v := va_rf (f i.toNatClampNeg)) (ty := .object C) hexec hb h1 (ht.arr h2 h4) rfl h3 (f_in hin h5) (h7 _ (f_inl hin)) rfl rfl hdg kk
theorem f_iast (hexec : p.tables.exec = Jvm.exec) (hb : c.code = cc) (hI : fI D cl A H0 h H locs) {cA : ClassId} {n : Nat} {f : Nat → Int32} (ha : h a = some (r, o, .inl (cA, n, .inl f))) (hr0 : r ≠ 0) (ht : fT s cA .int) {i : Int32} {x : Int32} (hin : vp_in i n) (hdg : decode cc pc = .ok (.iastore, 1))
    (kk : ∀ (H : Heap) (locs : List Loc), fI D cl A H0 (fU h a (r, o, .inl (cA, n, .inl (upd f i.toNatClampNeg x)))) H locs → W p l e R s m args below meth c H locs cells slots Q (F0 m (pc + 1) ls rest)) : W p l e R s m args below meth c H locs cells slots Q (F0 m pc ls (.int x :: .int i :: .ref a :: rest)) := by
  have h1 : H[a]? = some (arrV cA n (fun j => .int (f j))) := (hI.1 a _ ha).2 hr0
  refine W.iast hexec hb h1 (ht.arr rfl (fun k q => by cases q)) (fun q => by cases q) (f_in hin (by rw [arrV_size]; exact Nat.le_refl _)) rfl rfl hdg fun H1 e z oq => ?_
  refine kk H1 _ (hI.set ha hr0 ?_ z oq)
  show H1[a]? = some (vp_cell _ _)
  rw [e, vp_cell_i, arrV_store]
  congr 2
  funext q
  by_cases hq : q = i.toNatClampNeg
  · subst hq
    simp [updV, upd]
  · simp [updV, upd, hq]
theorem f_last (hexec : p.tables.exec = Jvm.exec) (hb : c.code = cc) (hI : fI D cl A H0 h H locs) {cA : ClassId} {n : Nat} {f : Nat → Int64} (ha : h a = some (r, o, .inl (cA, n, .inr (.inl f)))) (hr0 : r ≠ 0) (ht : fT s cA .long) {i : Int32} {x : Int64} (hin : vp_in i n) (hdg : decode cc pc = .ok (.lastore, 1))
    (kk : ∀ (H : Heap) (locs : List Loc), fI D cl A H0 (fU h a (r, o, .inl (cA, n, .inr (.inl (vp_updL f i.toNatClampNeg x))))) H locs → W p l e R s m args below meth c H locs cells slots Q (F0 m (pc + 1) ls rest)) : W p l e R s m args below meth c H locs cells slots Q (F0 m pc ls (.long x :: .int i :: .ref a :: rest)) := by
  have h1 : H[a]? = some (arrV cA n (fun j => .long (f j))) := (hI.1 a _ ha).2 hr0
  refine W.last hexec hb h1 (ht.arr rfl (fun k q => by cases q)) (fun q => by cases q) (f_in hin (by rw [arrV_size]; exact Nat.le_refl _)) rfl rfl hdg fun H1 e z oq => ?_
  refine kk H1 _ (hI.set ha hr0 ?_ z oq)
  show H1[a]? = some (vp_cell _ _)
  rw [e, vp_cell_l, arrV_store]
  congr 2
  funext q
  by_cases hq : q = i.toNatClampNeg
  · subst hq
    simp [updV, vp_updL]
  · simp [updV, vp_updL, hq]
theorem f_nar {ty : FieldType} {x y : Int32} (h : narrow ty (.int x) = .int y) : vp_nar ty x = y := by simp [vp_nar, h]
theorem f_bast (hexec : p.tables.exec = Jvm.exec) (hb : c.code = cc) (hI : fI D cl A H0 h H locs) {cA : ClassId} {n : Nat} {f : Nat → Int32} (ha : h a = some (r, o, .inl (cA, n, .inl f))) (hr0 : r ≠ 0) (ht : fT s cA .byte) {i : Int32} {x : Int32} (hin : vp_in i n) (hdg : decode cc pc = .ok (.bastore, 1))
    (kk : ∀ (H : Heap) (locs : List Loc), fI D cl A H0 (fU h a (r, o, .inl (cA, n, .inl (upd f i.toNatClampNeg x.toInt8.toInt32)))) H locs → W p l e R s m args below meth c H locs cells slots Q (F0 m (pc + 1) ls rest)) : W p l e R s m args below meth c H locs cells slots Q (F0 m pc ls (.int x :: .int i :: .ref a :: rest)) := by
  have h1 : H[a]? = some (arrV cA n (fun j => .int (f j))) := (hI.1 a _ ha).2 hr0
  refine W.bast hexec hb h1 (ht.arr rfl (fun k q => by cases q)) (fun q => by cases q) (f_in hin (by rw [arrV_size]; exact Nat.le_refl _)) rfl rfl hdg fun H1 e z oq => ?_
  refine kk H1 _ (hI.set ha hr0 ?_ z oq)
  show H1[a]? = some (vp_cell _ _)
  rw [e, vp_cell_i, arrV_store]
  congr 2
  funext q
  by_cases hq : q = i.toNatClampNeg
  · subst hq
    simp [updV, upd, narrow]
  · simp [updV, upd, hq]
theorem f_zast (hexec : p.tables.exec = Jvm.exec) (hb : c.code = cc) (hI : fI D cl A H0 h H locs) {cA : ClassId} {n : Nat} {f : Nat → Int32} (ha : h a = some (r, o, .inl (cA, n, .inl f))) (hr0 : r ≠ 0) (ht : fT s cA .boolean) {i : Int32} {x : Int32} (hin : vp_in i n) (hdg : decode cc pc = .ok (.bastore, 1))
    (kk : ∀ (H : Heap) (locs : List Loc), fI D cl A H0 (fU h a (r, o, .inl (cA, n, .inl (upd f i.toNatClampNeg (x &&& 1))))) H locs → W p l e R s m args below meth c H locs cells slots Q (F0 m (pc + 1) ls rest)) : W p l e R s m args below meth c H locs cells slots Q (F0 m pc ls (.int x :: .int i :: .ref a :: rest)) := by
  have h1 : H[a]? = some (arrV cA n (fun j => .int (f j))) := (hI.1 a _ ha).2 hr0
  refine W.zast hexec hb h1 (ht.arr rfl (fun k q => by cases q)) (fun q => by cases q) (f_in hin (by rw [arrV_size]; exact Nat.le_refl _)) rfl rfl hdg fun H1 e z oq => ?_
  refine kk H1 _ (hI.set ha hr0 ?_ z oq)
  show H1[a]? = some (vp_cell _ _)
  rw [e, vp_cell_i, arrV_store]
  congr 2
  funext q
  by_cases hq : q = i.toNatClampNeg
  · subst hq
    simp [updV, upd, narrow]
  · simp [updV, upd, hq]
theorem f_aast (hexec : p.tables.exec = Jvm.exec) (hb : c.code = cc) (hK : va_K D cl tys s) (hI : fI D cl A H0 h H locs) {cA : ClassId} {q : vw_C} {n v r2 o2 ci t0 : Nat} {vs : List Value} {f : Nat → Option Nat} (ha : h a = some (r, o, .inl (cA, n, .inr (.inr (.inr (.inr f)))))) (hr0 : r ≠ 0) (ht : tys[t0]? = some (cA, .object q.1)) (hv : h v = some (r2, o2, .inr (ci, vs))) (hr2 : r2 ≠ 0) (hc : cl[ci]? = some q) {i : Int32} (hin : vp_in i n) (hdg : decode cc pc = .ok (.aastore, 1))
    (kk : ∀ (H : Heap) (locs : List Loc), fI D cl A H0 (fU h a (r, o, .inl (cA, n, .inr (.inr (.inr (.inr (va_up f i.toNatClampNeg (some v)))))))) H locs → W p l e R s m args below meth c H locs cells slots Q (F0 m (pc + 1) ls rest)) : W p l e R s m args below meth c H locs cells slots Q (F0 m pc ls (.ref v :: .int i :: .ref a :: rest)) := by
  have h1 : H[a]? = some (arrV cA n (fun j => va_rf (f j))) := (hI.1 a _ ha).2 hr0
  have hlt := f_inl hin
  have h0 : ¬ i < 0 := fun q => hin (Or.inl q)
  obtain ⟨r', hr', cellV, g1, g2, g3, -⟩ := (hI.1 v _ hv).2 hr2
  have hcls := (hK.1 ci q hc).2
  obtain ⟨kA, comp, k1, k2, k3, -⟩ := (hK.2 t0 _ ht).2
  have hcomp : comp = D.1 ci := Option.some.inj (k3.symm.trans hcls.1)
  subst hcomp
  obtain ⟨kC, hkC, -⟩ := hcls.2
  refine W.aast hexec hb h1 (fun q h => by cases h) (fun h => by cases h) k1 k2 rfl hkC ⟨h0, by show _ < (arrV _ _ _).slots.size; rw [arrV_size]; exact hlt⟩ g1 (fun q h => by rw [g3] at h; cases h) (by rw [g2]; exact hkC) (by rw [g2]; exact va_assign hcls) rfl rfl hdg fun H1 e z oq => ?_
  refine kk H1 _ (hI.set ha hr0 ?_ z oq)
  show H1[a]? = some (vp_cell _ _)
  rw [e, vp_cell_q, arrV_store]
  congr 2
  funext x
  by_cases hq : x = i.toNatClampNeg
  · subst hq
    simp [updV, va_up, va_rf]
  · simp [updV, va_up, hq]
end FR
section FQ
variable {p : Program} {l : Launch} {e : Env} {R : Room} {s : State} {m : MethodId} {args : Array Value} {below : List Frame} {meth : Method} {c : Code} {H : Heap} {locs : List Loc} {cells slots : Nat} {Q : State → Prop}
variable {cc : ByteArray} {pc : Nat} {ls : Array Slot} {rest : List Value}
theorem f_rfcat (x : Option Nat) : (va_rf x).category = 1 := by cases x <;> rfl
theorem f_aload_nq (hexec : p.tables.exec = Jvm.exec) (hb : c.code = cc) {k : Fin 4} {i : Nat} {x : Option Nat} (hdg : decode cc pc = .ok (.aload_n k, 1)) (hi : (k : Nat) = i) (hl : ls[i]? = some (.val (va_rf x)))
    (kk : W p l e R s m args below meth c H locs cells slots Q (F0 m (pc + 1) ls (va_rf x :: rest))) : W p l e R s m args below meth c H locs cells slots Q (F0 m pc ls rest) := by
  cases x with
  | none => exact lv_aload_nN hexec hb hdg hi hl kk
  | some q => exact lv_aload_n hexec hb hdg hi hl kk
theorem f_aloadq (hexec : p.tables.exec = Jvm.exec) (hb : c.code = cc) {i : Nat} {x : Option Nat} (hdg : decode cc pc = .ok (.aload i, 2)) (hl : ls[i]? = some (.val (va_rf x)))
    (kk : W p l e R s m args below meth c H locs cells slots Q (F0 m (pc + 2) ls (va_rf x :: rest))) : W p l e R s m args below meth c H locs cells slots Q (F0 m pc ls rest) := by
  cases x with
  | none => exact lv_aloadN hexec hb hdg hl kk
  | some q => exact lv_aload hexec hb hdg hl kk
theorem f_astore_nq (hexec : p.tables.exec = Jvm.exec) (hb : c.code = cc) {k : Fin 4} {i nL : Nat} {x : Option Nat} {lv lv' : List (Nat × Value)} (hdg : decode cc pc = .ok (.astore_n k, 1)) (hi : (k : Nat) = i) (h : lv_has ls nL lv) (hn : i < nL) (hl : (i, va_rf x) :: lv.filter (fun q => !(q.1 == i) && !(q.1 + 1 == i && q.2.category == 2)) = lv')
    (kk : ∀ ls' : Array Slot, lv_has ls' nL lv' → W p l e R s m args below meth c H locs cells slots Q (F0 m (pc + 1) ls' rest)) : W p l e R s m args below meth c H locs cells slots Q (F0 m pc ls (va_rf x :: rest)) := by
  cases x with
  | none => exact lv_astore_nN hexec hb hdg hi h hn hl kk
  | some q => exact lv_astore_n hexec hb hdg hi h hn hl kk
theorem f_astoreq (hexec : p.tables.exec = Jvm.exec) (hb : c.code = cc) {i nL : Nat} {x : Option Nat} {lv lv' : List (Nat × Value)} (hdg : decode cc pc = .ok (.astore i, 2)) (h : lv_has ls nL lv) (hn : i < nL) (hl : (i, va_rf x) :: lv.filter (fun q => !(q.1 == i) && !(q.1 + 1 == i && q.2.category == 2)) = lv')
    (kk : ∀ ls' : Array Slot, lv_has ls' nL lv' → W p l e R s m args below meth c H locs cells slots Q (F0 m (pc + 2) ls' rest)) : W p l e R s m args below meth c H locs cells slots Q (F0 m pc ls (va_rf x :: rest)) := by
  cases x with
  | none => exact lv_astoreN hexec hb hdg h hn hl kk
  | some q => exact lv_astore hexec hb hdg h hn hl kk
theorem lgc (x y : Int64) : (x < y ∧ lg_cmp x y = -1) ∨ (x = y ∧ lg_cmp x y = 0) ∨ (y < x ∧ lg_cmp x y = 1) := by
  by_cases h1 : y < x
  · exact Or.inr (Or.inr ⟨h1, by simp [lg_cmp, h1]⟩)
  · by_cases h2 : x = y
    · exact Or.inr (Or.inl ⟨h2, by subst h2; simp [lg_cmp]⟩)
    · refine Or.inl ⟨?_, by simp [lg_cmp, h1, h2]⟩
      rw [Int64.lt_iff_toInt_lt] at h1 ⊢
      have h3 : x.toInt ≠ y.toInt := fun q => h2 (Int64.toInt_inj.mp q)
      omega
theorem l_asym {x y : Int64} (h : x < y) : ¬ y < x := by rw [Int64.lt_iff_toInt_lt] at h ⊢; omega
theorem l_ne {x y : Int64} (h : x < y) : ¬ x = y := fun q => by subst q; rw [Int64.lt_iff_toInt_lt] at h; omega
theorem l_nle {x y : Int64} (h : x < y) : ¬ y ≤ x := by rw [Int64.lt_iff_toInt_lt] at h; rw [Int64.le_iff_toInt_le]; omega
theorem l_le {x y : Int64} (h : x < y) : x ≤ y := by rw [Int64.lt_iff_toInt_lt] at h; rw [Int64.le_iff_toInt_le]; omega
theorem l_irr (x : Int64) : ¬ x < x := by rw [Int64.lt_iff_toInt_lt]; omega
theorem l_rf (x : Int64) : x ≤ x := by rw [Int64.le_iff_toInt_le]; omega
theorem f_lc_eq (hexec : p.tables.exec = Jvm.exec) (hb : c.code = cc) {x y : Int64} {off : Int} {tgt : Nat} (hd1 : decode cc pc = .ok (.lcmp, 1)) (hd2 : decode cc (pc + 1) = .ok (.ifCond .eq off, 3)) (ht : ((pc + 1 : Nat) : Int) + off = (tgt : Int))
    (kt : x = y → W p l e R s m args below meth c H locs cells slots Q (F0 m tgt ls rest)) (kf : ¬ x = y → W p l e R s m args below meth c H locs cells slots Q (F0 m (pc + 4) ls rest)) : W p l e R s m args below meth c H locs cells slots Q (F0 m pc ls (.long y :: .long x :: rest)) := by
  refine W.lcmp hexec hb hd1 (lv_if_eq (tgt := tgt) hexec hb hd2 ht (fun h => ?_) (fun h => ?_))
  · rcases lgc x y with ⟨a, b⟩ | ⟨a, b⟩ | ⟨a, b⟩
    · rw [b] at h; exact absurd h (by decide)
    · exact kt a
    · rw [b] at h; exact absurd h (by decide)
  · rcases lgc x y with ⟨a, b⟩ | ⟨a, b⟩ | ⟨a, b⟩
    · exact kf (l_ne a)
    · rw [b] at h; exact absurd rfl h
    · exact kf (fun q => l_ne a q.symm)
theorem f_lc_ne (hexec : p.tables.exec = Jvm.exec) (hb : c.code = cc) {x y : Int64} {off : Int} {tgt : Nat} (hd1 : decode cc pc = .ok (.lcmp, 1)) (hd2 : decode cc (pc + 1) = .ok (.ifCond .ne off, 3)) (ht : ((pc + 1 : Nat) : Int) + off = (tgt : Int))
    (kt : ¬ x = y → W p l e R s m args below meth c H locs cells slots Q (F0 m tgt ls rest)) (kf : x = y → W p l e R s m args below meth c H locs cells slots Q (F0 m (pc + 4) ls rest)) : W p l e R s m args below meth c H locs cells slots Q (F0 m pc ls (.long y :: .long x :: rest)) := by
  refine W.lcmp hexec hb hd1 (lv_if_ne (tgt := tgt) hexec hb hd2 ht (fun h => ?_) (fun h => ?_))
  · rcases lgc x y with ⟨a, b⟩ | ⟨a, b⟩ | ⟨a, b⟩
    · exact kt (l_ne a)
    · rw [b] at h; exact absurd rfl h
    · exact kt (fun q => l_ne a q.symm)
  · rcases lgc x y with ⟨a, b⟩ | ⟨a, b⟩ | ⟨a, b⟩
    · rw [b] at h; exact absurd h (by decide)
    · exact kf a
    · rw [b] at h; exact absurd h (by decide)
theorem f_lc_lt (hexec : p.tables.exec = Jvm.exec) (hb : c.code = cc) {x y : Int64} {off : Int} {tgt : Nat} (hd1 : decode cc pc = .ok (.lcmp, 1)) (hd2 : decode cc (pc + 1) = .ok (.ifCond .lt off, 3)) (ht : ((pc + 1 : Nat) : Int) + off = (tgt : Int))
    (kt : x < y → W p l e R s m args below meth c H locs cells slots Q (F0 m tgt ls rest)) (kf : ¬ x < y → W p l e R s m args below meth c H locs cells slots Q (F0 m (pc + 4) ls rest)) : W p l e R s m args below meth c H locs cells slots Q (F0 m pc ls (.long y :: .long x :: rest)) := by
  refine W.lcmp hexec hb hd1 (lv_if_lt (tgt := tgt) hexec hb hd2 ht (fun h => ?_) (fun h => ?_))
  · rcases lgc x y with ⟨a, b⟩ | ⟨a, b⟩ | ⟨a, b⟩
    · exact kt a
    · rw [b] at h; exact absurd h (by decide)
    · rw [b] at h; exact absurd h (by decide)
  · rcases lgc x y with ⟨a, b⟩ | ⟨a, b⟩ | ⟨a, b⟩
    · rw [b] at h; exact absurd (by decide) h
    · exact kf (fun q => l_ne q a)
    · exact kf (l_asym a)
theorem f_lc_ge (hexec : p.tables.exec = Jvm.exec) (hb : c.code = cc) {x y : Int64} {off : Int} {tgt : Nat} (hd1 : decode cc pc = .ok (.lcmp, 1)) (hd2 : decode cc (pc + 1) = .ok (.ifCond .ge off, 3)) (ht : ((pc + 1 : Nat) : Int) + off = (tgt : Int))
    (kt : y ≤ x → W p l e R s m args below meth c H locs cells slots Q (F0 m tgt ls rest)) (kf : ¬ y ≤ x → W p l e R s m args below meth c H locs cells slots Q (F0 m (pc + 4) ls rest)) : W p l e R s m args below meth c H locs cells slots Q (F0 m pc ls (.long y :: .long x :: rest)) := by
  refine W.lcmp hexec hb hd1 (lv_if_ge (tgt := tgt) hexec hb hd2 ht (fun h => ?_) (fun h => ?_))
  · rcases lgc x y with ⟨a, b⟩ | ⟨a, b⟩ | ⟨a, b⟩
    · rw [b] at h; exact absurd h (by decide)
    · exact kt (by rw [a]; exact l_rf _)
    · exact kt (l_le a)
  · rcases lgc x y with ⟨a, b⟩ | ⟨a, b⟩ | ⟨a, b⟩
    · exact kf (l_nle a)
    · rw [b] at h; exact absurd (by decide) h
    · rw [b] at h; exact absurd (by decide) h
theorem f_lc_gt (hexec : p.tables.exec = Jvm.exec) (hb : c.code = cc) {x y : Int64} {off : Int} {tgt : Nat} (hd1 : decode cc pc = .ok (.lcmp, 1)) (hd2 : decode cc (pc + 1) = .ok (.ifCond .gt off, 3)) (ht : ((pc + 1 : Nat) : Int) + off = (tgt : Int))
    (kt : y < x → W p l e R s m args below meth c H locs cells slots Q (F0 m tgt ls rest)) (kf : ¬ y < x → W p l e R s m args below meth c H locs cells slots Q (F0 m (pc + 4) ls rest)) : W p l e R s m args below meth c H locs cells slots Q (F0 m pc ls (.long y :: .long x :: rest)) := by
  refine W.lcmp hexec hb hd1 (lv_if_gt (tgt := tgt) hexec hb hd2 ht (fun h => ?_) (fun h => ?_))
  · rcases lgc x y with ⟨a, b⟩ | ⟨a, b⟩ | ⟨a, b⟩
    · rw [b] at h; exact absurd h (by decide)
    · rw [b] at h; exact absurd h (by decide)
    · exact kt a
  · rcases lgc x y with ⟨a, b⟩ | ⟨a, b⟩ | ⟨a, b⟩
    · exact kf (l_asym a)
    · exact kf (by rw [a]; exact l_irr _)
    · rw [b] at h; exact absurd (by decide) h
theorem f_lc_le (hexec : p.tables.exec = Jvm.exec) (hb : c.code = cc) {x y : Int64} {off : Int} {tgt : Nat} (hd1 : decode cc pc = .ok (.lcmp, 1)) (hd2 : decode cc (pc + 1) = .ok (.ifCond .le off, 3)) (ht : ((pc + 1 : Nat) : Int) + off = (tgt : Int))
    (kt : x ≤ y → W p l e R s m args below meth c H locs cells slots Q (F0 m tgt ls rest)) (kf : ¬ x ≤ y → W p l e R s m args below meth c H locs cells slots Q (F0 m (pc + 4) ls rest)) : W p l e R s m args below meth c H locs cells slots Q (F0 m pc ls (.long y :: .long x :: rest)) := by
  refine W.lcmp hexec hb hd1 (lv_if_le (tgt := tgt) hexec hb hd2 ht (fun h => ?_) (fun h => ?_))
  · rcases lgc x y with ⟨a, b⟩ | ⟨a, b⟩ | ⟨a, b⟩
    · exact kt (l_le a)
    · exact kt (by rw [a]; exact l_rf _)
    · rw [b] at h; exact absurd h (by decide)
  · rcases lgc x y with ⟨a, b⟩ | ⟨a, b⟩ | ⟨a, b⟩
    · rw [b] at h; exact absurd (by decide) h
    · rw [b] at h; exact absurd (by decide) h
    · exact kf (l_nle a)
end FQ
/-! EUCLID: two steps halve the lesser number -/
def eu : Nat → Nat → Nat → Nat × Nat
  | 0, a, b => (a, b)
  | n + 1, a, b => if b = 0 then (a, b) else eu n b (a % b)
theorem eu_0 (n a : Nat) : eu n a 0 = (a, 0) := by cases n <;> simp [eu]
theorem eu_gcd : ∀ (k a b : Nat), b < 2 ^ k → eu (2 * k) a b = (Nat.gcd a b, 0)
  | 0, a, b, h => by
    have hb : b = 0 := by simpa using h
    subst hb
    simp [eu]
  | k + 1, a, b, h => by
    by_cases hb : b = 0
    · subst hb
      rw [eu_0]; simp
    · have e1 : 2 * (k + 1) = (2 * k + 1) + 1 := by omega
      rw [e1]
      show (if b = 0 then (a, b) else eu (2 * k + 1) b (a % b)) = _
      rw [if_neg hb]
      have hr : a % b < b := Nat.mod_lt _ (by omega)
      have g1 : Nat.gcd a b = Nat.gcd b (a % b) := by rw [Nat.gcd_comm a b, Nat.gcd_rec b a, Nat.gcd_comm]
      by_cases hr0 : a % b = 0
      · rw [hr0, eu_0, g1, hr0]; simp
      · show (if a % b = 0 then (b, a % b) else eu (2 * k) (a % b) (b % (a % b))) = _
        rw [if_neg hr0]
        generalize a % b = r at hr hr0 g1
        have h1 : b % r < r := Nat.mod_lt _ (by omega)
        have h2 : b % r ≤ b - r := by
          rw [Nat.mod_eq_sub_mod (by omega)]
          exact Nat.mod_le _ _
        have h3 : 2 ^ (k + 1) = 2 * 2 ^ k := by rw [Nat.pow_succ]; omega
        rw [eu_gcd k r (b % r) (by omega), g1]
        have g2 : Nat.gcd b r = Nat.gcd r (b % r) := by rw [Nat.gcd_comm b r, Nat.gcd_rec r b, Nat.gcd_comm]
        rw [g2]
/-- more steps do no harm -/
theorem eu_mono : ∀ (n m a b : Nat), n ≤ m → (eu n a b).2 = 0 → eu m a b = eu n a b
  | 0, m, a, b, _, h => by
    have hb : b = 0 := h
    subst hb
    rw [eu_0]; rfl
  | n + 1, 0, a, b, hl, h => by omega
  | n + 1, m + 1, a, b, hl, h => by
    by_cases hb : b = 0
    · subst hb; rw [eu_0, eu_0]
    · have e1 : eu (n + 1) a b = eu n b (a % b) := by show (if b = 0 then (a, b) else _) = _; rw [if_neg hb]
      have e2 : eu (m + 1) a b = eu m b (a % b) := by show (if b = 0 then (a, b) else _) = _; rw [if_neg hb]
      rw [e1] at h ⊢
      rw [e2]
      exact eu_mono n m b (a % b) (by omega) h
