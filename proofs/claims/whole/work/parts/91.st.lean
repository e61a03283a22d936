/-! THE START: the first heap as a function, out of what the Statement gives -/
theorem w_selAB {args : Array Value} {s : State} {y y2 : MethodName} {C : String} (hcls : y.cls = y2.cls) (hy : y.cls ≠ "java/lang/invoke/MethodHandle" ∧ y.cls ≠ "java/lang/invoke/VarHandle") (h1 : (Cond.selects C y2 y2).before args s = true) (hpriv : (Cond.privateMethod y).before args s = true) (hinst : (Cond.instanceMethod y).before args s = true) : (Cond.selects C y y).before args s = true := by
  obtain ⟨mk, methM, hnamed, hmethM, -, -⟩ := Cond.instanceMethod_spec hinst
  have hfound : s.methodFound? y.cls y.name y.desc = some mk := State.methodFound?_of_named hnamed hy
  simp only [Cond.before, Cond.holds, Cond.value] at h1 ⊢
  cases hc : s.vm.findClass C with
  | none => simp [hc] at h1
  | some c =>
    cases hf : s.methodFound? y2.cls y2.name y2.desc with
    | none => simp [hc, hf] at h1
    | some r2 =>
      cases hm : s.methodNamed? y2 with
      | none => simp [hc, hf, hm] at h1
      | some m2 =>
        have hsel : selectMethod {} s.vm c mk = .method mk := selectMethod_private hmethM (Cond.privateMethod_at hpriv mk methM hnamed hmethM)
        have e2 : mk.cls = m2.cls := Option.some.inj ((findClass_of_methodNamed hnamed).symm.trans (by rw [hcls]; exact findClass_of_methodNamed hm))
        have hni : (s.vm.classes[m2.cls]?).any (fun k => !k.isInterface) = true := by
          simp only [hc, hf, hm] at h1
          generalize selectMethod {} s.vm c r2 = z at h1
          cases z <;> simp_all
        rw [← e2] at hni
        simp [hfound, hnamed, hsel]
        simpa using hni
/-- cells by their places -/
noncomputable def hFam (N : Nat) (ad : Nat → Nat) (cc : Nat → fC) : fH := fun a => @dite _ (∃ i, i < N ∧ ad i = a) (Classical.propDecidable _) (fun q => some (cc (Classical.choose q))) (fun _ => none)
theorem hFam_at {N : Nat} {ad : Nat → Nat} {cc : Nat → fC} (inj : ∀ i j, i < N → j < N → ad i = ad j → i = j) {i : Nat} (hi : i < N) : hFam N ad cc (ad i) = some (cc i) := by
  have q : ∃ j, j < N ∧ ad j = ad i := ⟨i, hi, rfl⟩
  have e : Classical.choose q = i := inj _ _ (Classical.choose_spec q).1 hi (Classical.choose_spec q).2
  unfold hFam
  rw [dif_pos q, e]
theorem hFam_of {N : Nat} {ad : Nat → Nat} {cc : Nat → fC} {a : Nat} {c : fC} (h : hFam N ad cc a = some c) : ∃ i, i < N ∧ ad i = a ∧ c = cc i := by
  unfold hFam at h
  split at h
  next q => exact ⟨_, (Classical.choose_spec q).1, (Classical.choose_spec q).2, (Option.some.inj h).symm⟩
  next => cases h
def cO (s : State) (a : Nat) : ClassId := (s.heap[a]?.map (fun (x : Cell) => x.cls)).getD 0
theorem w_TW {D : va_G} {cl : List vw_C} {ty : FieldType} {t N : Nat} {g : Nat → Int32} {A : Nat → Prop} {s : State} (hT : va_T ty t N (fun j => .int (g j)) A s s.heap) : fT s (cO s t) ty ∧ fW D cl t (.inl (cO s t, N, .inl g)) s.heap := by
  obtain ⟨cell, h1, h2, h3, h4, h5, h6, h7⟩ := hT
  have e : cO s t = cell.cls := by simp [cO, h1]
  exact ⟨by rw [e]; exact h2.2, cell, h1, e.symm, h3, h2.1, h4, h5, h6⟩
theorem w_TT {ty ty' : FieldType} {t N N' : Nat} {f f' : Nat → Value} {A A' : Nat → Prop} {s : State} {H : Heap} (h : va_T ty t N f A s H) (h' : va_T ty' t N' f' A' s H) : ty = ty' ∧ Int32.ofNat N = Int32.ofNat N' ∧ ∀ j, j < N → j < N' → f j = f' j := by
  obtain ⟨c, a1, a2, a3, a4, a5, a6, a7⟩ := h
  obtain ⟨c', b1, b2, b3, b4, b5, b6, b7⟩ := h'
  have e : c' = c := Option.some.inj (b1.symm.trans a1)
  subst e
  obtain ⟨k, k1, comp, k2⟩ := a2.2
  obtain ⟨k', k1', comp', k2'⟩ := b2.2
  have ek : k' = k := Option.some.inj (k1'.symm.trans k1)
  subst ek
  have e3 := k2.symm.trans k2'
  exact ⟨by cases e3; rfl, a5.symm.trans b5, fun j h1 h2 => Option.some.inj ((a6 j h1).symm.trans (b6 j h2))⟩
theorem w_KT {ty : FieldType} {a t N : Nat} {f : Nat → Value} {A A' : Nat → Prop} {s : State} {H : Heap} {C : String} {cC : ClassId} (hc : ClassAt s C cC) (hO : va_O C a A s H) (hT : va_T ty t N f A' s H) : a ≠ t := by
  intro e
  subst e
  obtain ⟨cell, h1, -, h3, -⟩ := hO
  obtain ⟨cell', g1, g2, -⟩ := hT
  have e : cell' = cell := Option.some.inj (g1.symm.trans h1)
  subst e
  obtain ⟨k, q1, comp, q2⟩ := g2.2
  obtain ⟨hf, kC, r1, r2⟩ := hc
  have e2 : cell'.cls = cC := Option.some.inj (h3.symm.trans hf)
  rw [e2] at q1
  have e3 : k = kC := Option.some.inj (q1.symm.trans r1)
  subst e3
  rw [r2] at q2
  cases q2
theorem w_SW {D : va_G} {s : State} {a v : Nat} {A : Nat → Prop} (hD : u_Kn s "java/lang/String" T_ST 4 (D.1 10) (D.2 10)) (hO : va_O "java/lang/String" a A s s.heap) (hc : va_OF "java/lang/String" "coder" "B" (.int 0) a A s s.heap) (hv : va_OF "java/lang/String" "value" "[B" (.ref v) a A s s.heap) : fW D g_cl a (.inr (10, [.ref v, .int 0])) s.heap := by
  obtain ⟨cell, h1, h2, h3, -⟩ := hO
  obtain ⟨cf, k, i, f, cell1, g1, g2, g3, g4, g5, -⟩ := hc
  obtain ⟨cf', k', i', f', cell2, q1, q2, q3, q4, q5, -⟩ := hv
  have e1 : cell1 = cell := Option.some.inj (g3.symm.trans h1)
  have e2 : cell2 = cell := Option.some.inj (q3.symm.trans h1)
  rw [e1] at g4 g5
  rw [e2] at q5
  refine ⟨("java/lang/String", T_ST, 4), cell, rfl, h1, Option.some.inj (h3.symm.trans hD.2.1), g4, h2, ?_⟩
  intro j w hj hw
  match j, hj, hw with
  | 0, _, hw =>
    cases hw
    obtain ⟨x1, x2, x3, fd, r1, r2⟩ := hD.1 0 (by decide)
    have e : (cf', k', i', f') = (x1, x2, x3, fd) := Option.some.inj (q1.symm.trans r1)
    cases e
    rw [← r2]
    exact q5
  | 1, _, hw =>
    cases hw
    obtain ⟨x1, x2, x3, fd, r1, r2⟩ := hD.1 1 (by decide)
    have e : (cf, k, i, f) = (x1, x2, x3, fd) := Option.some.inj (g1.symm.trans r1)
    cases e
    rw [← r2]
    exact g5
  | j + 2, _, hw => simp at hw
/-- the constants' lengths and bytes, by their places -/
def lnS : List Nat := [0, 25, 24, 14, 15, 8, 7, 63]
def byS : List (List Int32) := [[], (frm 0).map Int32.ofNat, (frm 1).map Int32.ofNat, (frm 2).map Int32.ofNat, (frm 3).map Int32.ofNat, (frm 4).map Int32.ofNat, (frm 5).map Int32.ofNat, alW.map Int32.ofNat]
theorem byS_f : ∀ K, K < 6 → fS K < 8 ∧ lnS.getD (fS K) 0 = fn K ∧ ∀ j, j < fn K → fx K j < 256 ∧ (byS.getD (fS K) []).getD j 0 = sb_b (fx K j) := by decide +kernel
theorem byS_7 : ∀ j, j < 63 → aL j < 256 ∧ (byS.getD 7 []).getD j 0 = sb_b (aL j) := by decide +kernel
theorem lnS_b : ∀ i, i < 8 → lnS.getD i 0 < 2 ^ 28 := by decide +kernel
theorem lnS_i : ∀ i, i < 8 → ∀ j, j < 8 → Int32.ofNat (lnS.getD i 0) = Int32.ofNat (lnS.getD j 0) → i = j := by decide +kernel
theorem lnS_n : ∀ i, i < 8 → Int32.ofNat (lnS.getD i 0) ≠ Int32.ofNat 100 := by decide +kernel
def wA (K V : Nat → Nat) (t1 t2 b i : Nat) : Nat := if i < 8 then K i else if i < 16 then V (i - 8) else if i = 16 then t1 else if i = 17 then t2 else b
theorem wA_c (K V : Nat → Nat) (t1 t2 b : Nat) : ∀ i, i < 19 → (i < 8 ∧ wA K V t1 t2 b i = K i) ∨ (∃ k, k < 8 ∧ i = 8 + k ∧ wA K V t1 t2 b i = V k) ∨ (i = 16 ∧ wA K V t1 t2 b i = t1) ∨ (i = 17 ∧ wA K V t1 t2 b i = t2) ∨ (i = 18 ∧ wA K V t1 t2 b i = b) := by
  intro i hi
  rcases (show i < 8 ∨ (8 ≤ i ∧ i < 16) ∨ i = 16 ∨ i = 17 ∨ i = 18 by omega) with h | ⟨h, h2⟩ | h | h | h
  · exact Or.inl ⟨h, by unfold wA; rw [if_pos h]⟩
  · exact Or.inr (Or.inl ⟨i - 8, by omega, by omega, by unfold wA; rw [if_neg (by omega), if_pos h2]⟩)
  · subst h; exact Or.inr (Or.inr (Or.inl ⟨rfl, rfl⟩))
  · subst h; exact Or.inr (Or.inr (Or.inr (Or.inl ⟨rfl, rfl⟩)))
  · subst h; exact Or.inr (Or.inr (Or.inr (Or.inr ⟨rfl, rfl⟩)))
theorem wA_inj {K V : Nat → Nat} {t1 t2 b : Nat} (hK : ∀ i j, i < 8 → j < 8 → K i = K j → i = j) (hV : ∀ i j, i < 8 → j < 8 → V i = V j → i = j) (hKV : ∀ i j, i < 8 → j < 8 → K i ≠ V j) (hK1 : ∀ i, i < 8 → K i ≠ t1) (hK2 : ∀ i, i < 8 → K i ≠ t2) (hKb : ∀ i, i < 8 → K i ≠ b) (hV1 : ∀ i, i < 8 → V i ≠ t1) (hV2 : ∀ i, i < 8 → V i ≠ t2) (hVb : ∀ i, i < 8 → V i ≠ b) (h12 : t1 ≠ t2) (h1b : t1 ≠ b) (h2b : t2 ≠ b) : ∀ i j, i < 19 → j < 19 → wA K V t1 t2 b i = wA K V t1 t2 b j → i = j := by
  intro i j hi hj e
  rcases wA_c K V t1 t2 b i hi with ⟨a, ea⟩ | ⟨k, a, e1, ea⟩ | ⟨a, ea⟩ | ⟨a, ea⟩ | ⟨a, ea⟩ <;> rcases wA_c K V t1 t2 b j hj with ⟨c, ec⟩ | ⟨k', c, e2, ec⟩ | ⟨c, ec⟩ | ⟨c, ec⟩ | ⟨c, ec⟩ <;> rw [ea, ec] at e
  · exact hK i j a c e
  · exact absurd e (hKV i k' a c)
  · exact absurd e (hK1 i a)
  · exact absurd e (hK2 i a)
  · exact absurd e (hKb i a)
  · exact absurd e.symm (hKV j k c a)
  · have := hV k k' a c e; omega
  · exact absurd e (hV1 k a)
  · exact absurd e (hV2 k a)
  · exact absurd e (hVb k a)
  · exact absurd e.symm (hK1 j c)
  · exact absurd e.symm (hV1 k' c)
  · omega
  · exact absurd e h12
  · exact absurd e h1b
  · exact absurd e.symm (hK2 j c)
  · exact absurd e.symm (hV2 k' c)
  · exact absurd e.symm h12
  · omega
  · exact absurd e h2b
  · exact absurd e.symm (hKb j c)
  · exact absurd e.symm (hVb k' c)
  · exact absurd e.symm h1b
  · exact absurd e.symm h2b
  · omega
def wC (s : State) (V : Nat → Nat) (t1 t2 b L : Nat) (xs : Nat → Int32) (i : Nat) : fC := if i < 8 then (0, i, .inr (10, [.ref (V i), .int 0])) else if i < 16 then (0, i - 8, .inl (cO s (V (i - 8)), lnS.getD (i - 8) 0, .inl (fun j => (byS.getD (i - 8) []).getD j 0))) else if i = 16 then (0, 100, .inl (cO s t1, 100, .inl (fun j => sb_b (48 + j % 10)))) else if i = 17 then (0, 101, .inl (cO s t2, 100, .inl (fun j => sb_b (48 + j / 10)))) else (0, 200, .inl (cO s b, L, .inl xs))
theorem wC_K {s : State} {V : Nat → Nat} {t1 t2 b L : Nat} {xs : Nat → Int32} {i : Nat} (h : i < 8) : wC s V t1 t2 b L xs i = (0, i, .inr (10, [.ref (V i), .int 0])) := by unfold wC; rw [if_pos h]
theorem wC_V {s : State} {V : Nat → Nat} {t1 t2 b L : Nat} {xs : Nat → Int32} {k : Nat} (h : k < 8) : wC s V t1 t2 b L xs (8 + k) = (0, k, .inl (cO s (V k), lnS.getD k 0, .inl (fun j => (byS.getD k []).getD j 0))) := by
  unfold wC
  rw [if_neg (by omega), if_pos (by omega), show 8 + k - 8 = k by omega]
theorem wA_K {K V : Nat → Nat} {t1 t2 b i : Nat} (h : i < 8) : wA K V t1 t2 b i = K i := by unfold wA; rw [if_pos h]
theorem wA_V {K V : Nat → Nat} {t1 t2 b k : Nat} (h : k < 8) : wA K V t1 t2 b (8 + k) = V k := by
  unfold wA
  rw [if_neg (by omega), if_pos (by omega), show 8 + k - 8 = k by omega]
theorem w_first {s : State} {b L : Nat} {xs : Nat → Int32} (hX : va_X b L xs s s.heap) (D : va_G) (hD : u_Kn s "java/lang/String" T_ST 4 (D.1 10) (D.2 10)) (K V : Nat → Nat) (t1 t2 : Nat) (hS : vk_S 8 lnS byS K V (fun q => s.heap.size ≤ q) s s.heap) (hT1 : va_T .byte t1 100 (fun j => .int (sb_b (48 + j % 10))) (fun q => s.heap.size ≤ q) s s.heap) (hT2 : va_T .byte t2 100 (fun j => .int (sb_b (48 + j / 10))) (fun q => s.heap.size ≤ q) s s.heap) :
    ∃ (h : fH) (cS : ClassId), fT s cS .int ∧ (∀ G : gG, (∀ cA, fT s cA .byte → G.2.2.1 cA) → (∀ i, i < 8 → G.2.2.2 i = K i) → G.2.2.2 100 = t1 → G.2.2.2 101 = t2 → cst G h b cS L xs ∧ sT G h 0 0 0 (G.2.2.2 0) (fun _ => 0) 0) ∧ (∀ a c, h a = some c → c.1 = 0) ∧ fP D g_cl h s.heap := by
  have hXT : va_T .int b L (fun j => .int (xs j)) (fun q => s.heap.size ≤ q) s s.heap := by
    obtain ⟨scr, x1, x2, x3, x4, x5⟩ := hX
    exact ⟨scr, x1, x2, x3, Nat.le_of_eq x4.symm, by rw [x4] <;> rfl, x5, Nat.not_le.mpr (Array.getElem?_eq_some_iff.mp x1).1⟩
  have hTV : ∀ i, i < 8 → va_T .byte (V i) (lnS.getD i 0) (fun j => .int ((byS.getD i []).getD j 0)) (fun q => s.heap.size ≤ q) s s.heap := fun i hi => (hS.1 i hi).2.2.2
  have inj := wA_inj (K := K) (V := V) (t1 := t1) (t2 := t2) (b := b) hS.2
    (fun i j hi hj e => lnS_i i hi j hj (w_TT (hTV i hi) (by rw [e]; exact hTV j hj)).2.1)
    (fun i j hi hj => w_KT hD.2 (hS.1 i hi).1 (hTV j hj)) (fun i hi => w_KT hD.2 (hS.1 i hi).1 hT1) (fun i hi => w_KT hD.2 (hS.1 i hi).1 hT2) (fun i hi => w_KT hD.2 (hS.1 i hi).1 hXT)
    (fun i hi e => lnS_n i hi (w_TT (hTV i hi) (by rw [e]; exact hT1)).2.1) (fun i hi e => lnS_n i hi (w_TT (hTV i hi) (by rw [e]; exact hT2)).2.1)
    (fun i hi e => absurd (w_TT (hTV i hi) (by rw [e]; exact hXT)).1 (fun h => by cases h))
    (fun e => absurd ((w_TT hT1 (by rw [e]; exact hT2)).2.2 1 (by decide) (by decide)) (fun h => absurd (Value.int.inj h) (by decide +kernel)))
    (fun e => absurd (w_TT hT1 (by rw [e]; exact hXT)).1 (fun h => by cases h)) (fun e => absurd (w_TT hT2 (by rw [e]; exact hXT)).1 (fun h => by cases h))
  have at9 : ∀ i, i < 19 → hFam 19 (wA K V t1 t2 b) (wC s V t1 t2 b L xs) (wA K V t1 t2 b i) = some (wC s V t1 t2 b L xs i) := fun i hi => hFam_at inj hi
  have aK : ∀ i, i < 8 → hFam 19 (wA K V t1 t2 b) (wC s V t1 t2 b L xs) (K i) = some (0, i, .inr (10, [.ref (V i), .int 0])) := fun i hi => by
    have h := at9 i (by omega)
    rw [wA_K hi, wC_K hi] at h
    exact h
  have aV : ∀ k, k < 8 → hFam 19 (wA K V t1 t2 b) (wC s V t1 t2 b L xs) (V k) = some (0, k, .inl (cO s (V k), lnS.getD k 0, .inl (fun j => (byS.getD k []).getD j 0))) := fun k hk => by
    have h := at9 (8 + k) (by omega)
    rw [wA_V hk, wC_V hk] at h
    exact h
  have a1 : hFam 19 (wA K V t1 t2 b) (wC s V t1 t2 b L xs) t1 = some (0, 100, .inl (cO s t1, 100, .inl (fun j => sb_b (48 + j % 10)))) := at9 16 (by decide)
  have a2 : hFam 19 (wA K V t1 t2 b) (wC s V t1 t2 b L xs) t2 = some (0, 101, .inl (cO s t2, 100, .inl (fun j => sb_b (48 + j / 10)))) := at9 17 (by decide)
  have ab : hFam 19 (wA K V t1 t2 b) (wC s V t1 t2 b L xs) b = some (0, 200, .inl (cO s b, L, .inl xs)) := at9 18 (by decide)
  have ok : ∀ i, i < 19 → (wC s V t1 t2 b L xs i).1 = 0 ∧ fW D g_cl (wA K V t1 t2 b i) (wC s V t1 t2 b L xs i).2.2 s.heap := by
    intro i hi
    rcases wA_c K V t1 t2 b i hi with ⟨a, ea⟩ | ⟨k, a, e1, ea⟩ | ⟨a, ea⟩ | ⟨a, ea⟩ | ⟨a, ea⟩
    · rw [ea, wC_K a]
      exact ⟨rfl, w_SW hD (hS.1 i a).1 (hS.1 i a).2.1 (hS.1 i a).2.2.1⟩
    · subst e1
      rw [ea, wC_V a]
      exact ⟨rfl, (w_TW (hTV k a)).2⟩
    · subst a
      exact ⟨rfl, (w_TW hT1).2⟩
    · subst a
      exact ⟨rfl, (w_TW hT2).2⟩
    · subst a
      exact ⟨rfl, (w_TW hXT).2⟩
  refine ⟨hFam 19 (wA K V t1 t2 b) (wC s V t1 t2 b L xs), cO s b, (w_TW (D := D) (cl := g_cl) hXT).1, fun G hB hK h1 h2 => ?_, fun a c ha => ?_, fun a c ha => ?_⟩
  · have sS : ∀ (i : Nat) (hi : i < 8) (tx : Nat → Nat) (n : Nat), lnS.getD i 0 = n → (∀ j, j < n → tx j < 256 ∧ (byS.getD i []).getD j 0 = sb_b (tx j)) → sT G (hFam 19 (wA K V t1 t2 b) (wC s V t1 t2 b L xs)) 0 0 i (G.2.2.2 i) tx n := by
      intro i hi tx n hn htx
      subst hn
      exact ⟨V i, cO s (V i), fun j => (byS.getD i []).getD j 0, [], by rw [hK i hi]; exact aK i hi, aV i hi, Or.inl (hB _ (w_TW (D := D) (cl := g_cl) (hTV i hi)).1), lnS_b i hi, htx⟩
    refine ⟨⟨fun K0 hK0 => sS (fS K0) (byS_f K0 hK0).1 _ _ (byS_f K0 hK0).2.1 (byS_f K0 hK0).2.2, ⟨cO s t1, cO s t2, fun j => sb_b (48 + j % 10), fun j => sb_b (48 + j / 10), by rw [h1]; exact a1, by rw [h2]; exact a2, Or.inl (hB _ (w_TW (D := D) (cl := g_cl) hT1).1), Or.inl (hB _ (w_TW (D := D) (cl := g_cl) hT2).1), fun k _ => ⟨rfl, rfl⟩⟩, sS 7 (by decide) _ _ rfl byS_7, ab⟩, sS 0 (by decide) _ _ rfl (fun j hj => absurd hj (Nat.not_lt_zero j))⟩
  · obtain ⟨i, hi, -, rfl⟩ := hFam_of ha
    exact (ok i hi).1
  · obtain ⟨i, hi, rfl, rfl⟩ := hFam_of ha
    exact ⟨(ok i hi).2, fun q => absurd (ok i hi).1 q⟩
