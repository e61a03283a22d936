/-! rows for the JDK's own methods: statics, inherited and super calls, arraycopy, clone -/
/-- a byte array's class: ours, or a constant's -/
def gB (G : gG) (cA : ClassId) : Prop := G.2.2.1 cA ∨ cA = G.2.1 3
theorem gB.fT {G : gG} {U : State} {cA : ClassId} (hG : gK G U) (h : gB G cA) : fT U cA .byte := by
  rcases h with h | h
  · exact hG.2.2.2.2 _ h
  · rw [h]; exact fT.ofK hG.1 (t0 := 3) rfl
section F3
variable {p : Program} {l : Launch} {e : Env} {R : Room} {s : State} {m : MethodId} {args : Array Value} {below : List Frame} {meth : Method} {c : Code} {H : Heap} {locs : List Loc} {cells slots : Nat} {Q : State → Prop}
variable {cc bytes : ByteArray} {pc nL maxL n index : Nat} {ls : Array Slot} {rest As st0 : List Value} {A : Nat → Prop} {a r o ci : Nat} {h : fH} {G : gG} {own nm : String} {x y : MethodName} {rm : Room} {ret : Option FieldType} {Qc : Array Value → State → Outcome → State → Prop}
theorem f_decl (hC : gC G p s m args meth c A cc nL own nm) {b0 : ByteArray} {m0 : Nat} {r0 : Option FieldType} (hi : Cond.instanceMethod x ∈ g_T) (hc : Cond.code x b0 m0 r0 ∈ g_T) : va_Decl s ⟨x.cls, x.name, x.desc⟩ := va_Decl.of (hC.2.2.2.2.2.2.1 _ hi) (hC.2.2.2.2.2.2.1 _ hc)
theorem f_callU {C : String} (hC : gC G p s m args meth c A cc nL own nm) (gm : gM y bytes maxL ret n) (hl : Cond.methodLink own index x ∈ g_T) (hsm : Cond.sameMethod x.cls x.cls x.name x.desc ∈ g_T) (hd : va_Decl s ⟨x.cls, x.name, x.desc⟩) (hMH : x.cls ≠ "java/lang/invoke/MethodHandle" ∧ x.cls ≠ "java/lang/invoke/VarHandle") (hxy : x.desc = y.desc) (hsel : Cond.selects C x y ∈ g_T) (hi : Cond.instanceMethod y ∈ g_T) (hR : rm.frames + 1 ≤ R.frames ∧ 8 + (maxL + 11) + rm.locals ≤ R.locals) : va_CU R s args own C x.cls index x y bytes maxL ret (.code y bytes maxL ret :: g_T) rm rm.cells rm.slots n := by
  obtain ⟨h1, h2, h3, h4⟩ := gm
  have hT := hC.2.2.2.2.2.2.1
  have hp : ∀ w ∈ (Cond.code y bytes maxL ret :: g_T), w ∈ g_T := fun w hw => by
    rcases List.mem_cons.mp hw with q | q
    · rw [q]; exact h1
    · exact q
  exact ⟨⟨rfl, rfl, hR.1, hR.2, fun w hw a' U hW => word_at hW (g_T_good w (hp w hw)) (hT w (hp w hw)), List.mem_cons_self⟩, hT _ h1, hT _ h2, hMH, fun sig hs => f_len h4 (by rw [← hxy]; exact hs), hT _ hl, hT _ hsm, hd, hT _ hsel, hT _ hi⟩
/-- invokevirtual of a method that the receiver's class inherits (x: as named; y: as run) -/
theorem f_runU {C : String} {b0 : ByteArray} {m0 : Nat} {r0 : Option FieldType} (hC : gC G p s m args meth c A cc nL own nm) (hI : fI G.1 g_cl A s.heap h H locs) (hM : cM l y bytes maxL ret rm G (.ref a :: As) h H.size Qc) (gm : gM y bytes maxL ret n) (hix : Cond.instanceMethod x ∈ g_T) (hcx : Cond.code x b0 m0 r0 ∈ g_T) (hMH : x.cls ≠ "java/lang/invoke/MethodHandle" ∧ x.cls ≠ "java/lang/invoke/VarHandle") (hxy : x.desc = y.desc) (hi : Cond.instanceMethod y ∈ g_T) (hs : Cond.selects C x y ∈ g_T) (hsm : Cond.sameMethod x.cls x.cls x.name x.desc ∈ g_T) (hl : Cond.methodLink own index x ∈ g_T) {fs : List Value} {q : vw_C} (he : h a = some (r, o, .inr (ci, fs))) (hq : g_cl[ci]? = some q) (hqc : q.1 = C)
    (hn : As.length = n) (hsize : ls.size = nL) (hstack : st0 = As.reverse ++ .ref a :: rest) (hW : (rest.map fun v => v.category).sum ≤ 8) (hR : rm.frames + 1 ≤ R.frames ∧ 8 + (maxL + 11) + rm.locals ≤ R.locals) (hdg : decode cc pc = .ok (.invokevirtual index, 3)) (hf : cells + rm.cells ≤ R.cells ∧ slots + rm.slots ≤ R.slots) :
    va_Run p l e R s m args below meth c H locs cells slots rm.cells rm.slots (F0 m pc ls st0) rest (Qc (Value.ref a :: As).toArray) (fA h H.size) :=
  va_runU (C := C) ⟨hC.1, hC.2.1, hC.2.2.1, hC.2.2.2.1, hC.2.2.2.2.2.2.1⟩ hM (f_callU hC gm hl hsm (f_decl hC hix hcx) hMH hxy hs hi hR) ⟨gPre.blind, by rw [← hqc]; exact f_recv hC hI he hq, f_pre hC hI _⟩ rfl hn hsize hstack (lv_room hW) hdg hf
/-- invokespecial of the superclass's method -/
theorem f_runSU (hC : gC G p s m args meth c A cc nL own nm) (hI : fI G.1 g_cl A s.heap h H locs) (hM : cM l y bytes maxL ret rm G (.ref a :: As) h H.size Qc) (gm : gM y bytes maxL ret n) (hi : Cond.instanceMethod y ∈ g_T) (hsm : Cond.sameMethod y.cls y.cls y.name y.desc ∈ g_T) (hsup : Cond.superclass own y.cls ∈ g_T) (hno : y.name ≠ "<init>") (hl : Cond.methodLink own index y ∈ g_T) {fs : List Value} {q : vw_C} (he : h a = some (r, o, .inr (ci, fs))) (hq : g_cl[ci]? = some q)
    (hn : As.length = n) (hsize : ls.size = nL) (hstack : st0 = As.reverse ++ .ref a :: rest) (hW : (rest.map fun v => v.category).sum ≤ 8) (hR : rm.frames + 1 ≤ R.frames ∧ 8 + (maxL + 11) + rm.locals ≤ R.locals) (hdg : decode cc pc = .ok (.invokespecial index, 3)) (hf : cells + rm.cells ≤ R.cells ∧ slots + rm.slots ≤ R.slots) :
    va_Run p l e R s m args below meth c H locs cells slots rm.cells rm.slots (F0 m pc ls st0) rest (Qc (Value.ref a :: As).toArray) (fA h H.size) := by
  obtain ⟨h1, h2, h3, h4⟩ := gm
  have hT := hC.2.2.2.2.2.2.1
  have hp : ∀ w ∈ (Cond.code y bytes maxL ret :: g_T), w ∈ g_T := fun w hw => by
    rcases List.mem_cons.mp hw with q | q
    · rw [q]; exact h1
    · exact q
  exact va_runSU (C := q.1) (hC.2.2.2.2.2.2.2.1.1.1 ci q hq).2 ⟨hC.1, hC.2.1, hC.2.2.1, hC.2.2.2.1, hC.2.2.2.2.2.2.1⟩ hM ⟨⟨rfl, rfl, hR.1, hR.2, fun w hw a' U hW => word_at hW (g_T_good w (hp w hw)) (hT w (hp w hw)), List.mem_cons_self⟩, hT _ hl, hT _ hsm, hT _ hsup, hT _ hi, hT _ h2, hT _ h1, hno, fun sig hs => f_len h4 hs⟩ ⟨gPre.blind, f_recv hC hI he hq, f_pre hC hI _⟩ rfl hn hsize hstack (lv_room hW) hdg hf
end F3
section F4
variable {p : Program} {l : Launch} {e : Env} {R : Room} {s : State} {m : MethodId} {args : Array Value} {below : List Frame} {meth : Method} {c : Code} {H : Heap} {locs : List Loc} {cells slots : Nat} {Q : State → Prop}
variable {cc : ByteArray} {pc : Nat} {ls : Array Slot} {rest : List Value} {D : va_G} {cl : List vw_C} {A : Nat → Prop} {a r o : Nat} {tys : List (ClassId × FieldType)} {h : fH} {H0 : Heap}
theorem f_castA (hexec : p.tables.exec = Jvm.exec) (hb : c.code = cc) {own nm : String} {index : Nat} (hown : s.vm.findClass own = some m.cls) (hlink : (Cond.classLink own index nm).before args s = true) (hI : fI D cl A H0 h H locs) {cA : ClassId} {x : vp_A} (ha : h a = some (r, o, .inl (cA, x))) (hr0 : r ≠ 0) (hnm : s.vm.findClass nm = some cA) (hdg : decode cc pc = .ok (.checkcast index, 3))
    (k : W p l e R s m args below meth c H locs cells slots Q (F0 m (pc + 3) ls (.ref a :: rest))) : W p l e R s m args below meth c H locs cells slots Q (F0 m pc ls (.ref a :: rest)) := by
  refine va_castA (D := D) (cl := cl) (ws := [(a, .inl (cA, x))]) hexec hb hown hlink (fun k y hy => ?_) 0 rfl hnm hdg k
  have hz : k < 1 := (List.getElem?_eq_some_iff.mp hy).1
  rw [show k = 0 by omega] at hy
  cases hy
  exact (hI.1 a _ ha).2 hr0
theorem f_clone (hexec : p.tables.exec = Jvm.exec) (hb : c.code = cc) (hml : c.maxLocals = ls.size) {own ad : String} {index : Nat} (hown : s.vm.findClass own = some m.cls)
    (hlink : (Cond.methodLink own index ⟨ad, "clone", "()Ljava/lang/Object;"⟩).before args s = true) (hsame : (Cond.sameMethod ad "java/lang/Object" "clone" "()Ljava/lang/Object;").before args s = true)
    (hnat : (Cond.native ⟨"java/lang/Object", "clone", "()Ljava/lang/Object;"⟩).before args s = true) (hinst : (Cond.instanceMethod ⟨"java/lang/Object", "clone", "()Ljava/lang/Object;"⟩).before args s = true)
    (hsel : (Cond.selects ad ⟨ad, "clone", "()Ljava/lang/Object;"⟩ ⟨"java/lang/Object", "clone", "()Ljava/lang/Object;"⟩).before args s = true) (hcl : va_Nw (.castable ad "java/lang/Cloneable") s)
    (hK : va_K D cl tys s) (hI : fI D cl A H0 h H locs) (t0 r2 o2 : Nat) {cA : ClassId} {x : vp_A} {ty : FieldType} (ha : h a = some (r, o, .inl (cA, x))) (hr0 : r ≠ 0) (ht : tys[t0]? = some (cA, ty))
    (hnm : s.vm.findClass ad = some cA) (hfit : ∀ (i : Nat) (v : Value), (vp_cell cA x).slots[i]? = some v → fits ty v = true)
    (hframes : 1 ≤ R.frames) (hlocals : (rest.map fun v => v.category).sum + 14 ≤ R.locals) (hcells : cells + 1 ≤ R.cells) (hslots : slots + x.1 ≤ R.slots) (hdg : decode cc pc = .ok (.invokevirtual index, 3))
    (kk : ∀ (q : Nat) (H1 : Heap), q = H.size → H1.size = H.size + 1 → h q = none → fI D cl A H0 (fU h q (r2, o2, .inl (cA, x))) H1 locs →
      W p l e R s m args below meth c H1 locs (cells + 1) (slots + x.1) Q (F0 m (pc + 3) ls (.ref q :: rest))) : W p l e R s m args below meth c H locs cells slots Q (F0 m pc ls (.ref a :: rest)) := by
  have hsz : (vp_cell cA x).slots.size = x.1 := by
    obtain ⟨n, f | f | f | f | f⟩ := x <;> exact arrV_size _ _ _
  have hvm0 : (vp_cell cA x).vm = .none := by
    obtain ⟨n, f | f | f | f | f⟩ := x <;> rfl
  have hcl0 : (vp_cell cA x).cls = cA := by
    obtain ⟨n, f | f | f | f | f⟩ := x <;> rfl
  have hcellE : ({ cls := (vp_cell cA x).cls, slots := (vp_cell cA x).slots } : Cell) = vp_cell cA x := by
    obtain ⟨n, f | f | f | f | f⟩ := x <;> rfl
  obtain ⟨c0, t0', f1, f2, f3⟩ := Cond.castable_spec (va_Nw.use (A := args) rfl hcl)
  cases hnm.symm.trans f1
  intro T hT X
  have hcellH : H[a]? = some (vp_cell cA x) := (hI.1 a _ ha).2 hr0
  have hcellT : T.heap[a]? = some (vp_cell cA x) := by rw [hT]; exact hcellH
  obtain ⟨-, kA, hkA, comp, hkind⟩ := State.isArrayOf_alike X.warmed.alike ((hK.2 t0 _ ht).1 0 (fun _ => .null))
  obtain ⟨-, kS, hkS, compS, hkindS⟩ := (hK.2 t0 _ ht).1 0 (fun _ => .null)
  obtain ⟨vm', X', st⟩ := X.cloneArray hexec hown hlink hsame hnat hinst hsel (a := a) (cell := vp_cell cA x) hcellT (fun k h => by rw [hvm0] at h; cases h) (by rw [hvm0]; exact fun h => by cases h) (by rw [hcl0]; exact hnm) f2 (by rw [hcl0]; exact f3)
    (fun i v hv => by
      rw [hcl0]
      have hk' : T.vm.classes[cA]? = some kA := hkA
      simpa [State.fitsSlot, State.slotType?, hk', hkind] using hfit i v hv)
    (g := F0 m pc ls (.ref a :: rest)) rfl (by rw [hml]) rfl (by rw [hb]; exact hdg) hframes (by show 2 * 0 + _ + 14 ≤ _; omega) hcells (by rw [hsz]; exact hslots) (hloader := by rw [hcl0]; exact Vm.clonesLoader_of_array hkS hkindS)
  rw [hcellE, hsz] at X'
  generalize hH1 : H.push (vp_cell cA x) = H1
  have z1 : H1.size = H.size + 1 := by rw [← hH1, Array.size_push]
  have e1 : H1[H.size]? = some (vp_cell cA x) := by rw [← hH1, Array.getElem?_push_size]
  have o1 : ∀ q : Nat, q < H.size → H1[q]? = H[q]? := fun q hq => by rw [← hH1, Array.getElem?_push, if_neg (Nat.ne_of_lt hq)]
  obtain ⟨t, b1, b2⟩ := kk H.size H1 rfl z1 hI.none (hI.new r2 o2 e1 z1 o1) ((T.setVm vm').pushCell (vp_cell cA x)) (by rw [← hH1, ← hT]; rfl) X'
  refine ⟨t, st t ?_, b2⟩
  rw [hcellE, hT]
  exact b1
theorem f_copyi (hexec : p.tables.exec = Jvm.exec) (hb : c.code = cc) (hml : c.maxLocals = ls.size) {own : String} {index : Nat} (hown : s.vm.findClass own = some m.cls) (hlink : (Cond.methodLink own index arraycopyName).before args s = true) (hnat : (Cond.native arraycopyName).before args s = true) (hstat : (Cond.static arraycopyName).before args s = true) (hini : (Cond.initialized "java/lang/System").before args s = true)
    (hK : va_K D cl tys s) (hI : fI D cl A H0 h H locs) (t0 t1 : Nat) {a0 r0 o0 : Nat} {c0 c1 : ClassId} {n0 n1 : Nat} {f g : Nat → Int32} {ty : FieldType} (ha0 : h a0 = some (r0, o0, .inl (c0, n0, .inl f))) (hr0 : r0 ≠ 0) (ha1 : h a = some (r, o, .inl (c1, n1, .inl g))) (hr1 : r ≠ 0) (ht0 : tys[t0]? = some (c0, ty)) (ht1 : tys[t1]? = some (c1, ty)) (hprim : refKind ty = false)
    {sp dp n : Int32} (h1 : ¬ sp < 0) (h2 : ¬ dp < 0) (h3 : ¬ n < 0) (h4 : sp.toNatClampNeg + n.toNatClampNeg ≤ n0) (h5 : dp.toNatClampNeg + n.toNatClampNeg ≤ n1) (hfit : ∀ i, i < n.toNatClampNeg → fits ty (.int (f (sp.toNatClampNeg + i))) = true)
    (hframes : 1 ≤ R.frames) (hlocals : (rest.map fun v => v.category).sum + (nativeFrameWords "java/lang/System" "arraycopy" 5 + 11) ≤ R.locals) (hdg : decode cc pc = .ok (.invokestatic index, 3))
    (kk : ∀ (H1 : Heap) (locs1 : List Loc), fI D cl A H0 (fU h a (r, o, .inl (c1, n1, .inl (va_cpy f g sp.toNatClampNeg dp.toNatClampNeg n.toNatClampNeg)))) H1 locs1 → W p l e R s m args below meth c H1 locs1 cells slots Q (F0 m (pc + 3) ls rest)) : W p l e R s m args below meth c H locs cells slots Q (F0 m pc ls (.int n :: .int dp :: .ref a :: .int sp :: .ref a0 :: rest)) := by
  have nn : ∀ z : Int32, ¬ z < 0 → z.toInt = (z.toNatClampNeg : Int) := by
    intro z hz
    have hz0 : (0 : Int) ≤ z.toInt := by
      have := Int32.not_lt.mp hz
      simpa using Int32.le_iff_toInt_le.mp this
    show z.toInt = ((z.toInt.toNat : Nat) : Int)
    omega
  intro T hT X
  have hc0 : H[a0]? = some (vp_cell c0 (n0, .inl f)) := (hI.1 a0 _ ha0).2 hr0
  have hc1 : H[a]? = some (vp_cell c1 (n1, .inl g)) := (hI.1 a _ ha1).2 hr1
  obtain ⟨-, k0, hk0, cm0, hkk0⟩ := (hK.2 t0 _ ht0).1 n0 (fun j => .int (f j))
  obtain ⟨-, k1, hk1, cm1, hkk1⟩ := (hK.2 t1 _ ht1).1 n1 (fun j => .int (g j))
  obtain ⟨vm', X', step⟩ := X.arraycopy hexec hown hlink hnat hstat hini (src := a0) (dst := a) (cs := vp_cell c0 (n0, .inl f)) (cd := vp_cell c1 (n1, .inl g)) (srcPos := sp) (destPos := dp) (n := n) (by rw [hT]; exact hc0) (by rw [hT]; exact hc1)
    (fun _ h => by cases h) (fun _ h => by cases h) (fun h => by cases h) (fun h => by cases h) hk0 hk1 hkk0 hkk1 (by simp [hprim]) h1 h2 h3
    (by rw [nn sp h1, nn n h3]; show ¬ _ > ((arrV c0 n0 (fun j => .int (f j))).slots.size : Int); rw [arrV_size]; omega)
    (by rw [nn dp h2, nn n h3]; show ¬ _ > ((arrV c1 n1 (fun j => .int (g j))).slots.size : Int); rw [arrV_size]; omega)
    (fun vm₁ _ i hi => by
      have e : (vp_cell c0 (n0, .inl f)).slots.getD (sp.toNatClampNeg + i) .null = .int (f (sp.toNatClampNeg + i)) := by
        show (arrV c0 n0 (fun j => .int (f j))).slots.getD _ _ = _
        rw [Array.getD_eq_getD_getElem?, arrV_read _ _ (by omega)]
        rfl
      refine ⟨?_, ?_⟩
      · rw [e]
        exact hfit i hi
      · rw [e]
        exact trivial)
    (g := F0 m pc ls (.int n :: .int dp :: .ref a :: .int sp :: .ref a0 :: rest)) rfl (by rw [hml]) (rest := rest) rfl (by rw [hb]; exact hdg) hframes (by show 2 * 0 + _ + _ ≤ _; omega)
  have e1 : copied (vp_cell c0 (n0, .inl f)) (vp_cell c1 (n1, .inl g)) sp dp n = vp_cell c1 (n1, .inl (va_cpy f g sp.toNatClampNeg dp.toNatClampNeg n.toNatClampNeg)) := va_copied (fun z => .int z) c0 c1 f g h4
  rw [e1] at X' step
  have hl : a < H.size := (Array.getElem?_eq_some_iff.mp hc1).1
  have hheap : ((T.setVm vm').setCell a (vp_cell c1 (n1, .inl (va_cpy f g sp.toNatClampNeg dp.toNatClampNeg n.toNatClampNeg)))).heap = H.setIfInBounds a (vp_cell c1 (n1, .inl (va_cpy f g sp.toNatClampNeg dp.toNatClampNeg n.toNatClampNeg))) := by rw [← hT]; rfl
  have oq : ∀ q : Nat, q ≠ a → (H.setIfInBounds a (vp_cell c1 (n1, .inl (va_cpy f g sp.toNatClampNeg dp.toNatClampNeg n.toNatClampNeg))))[q]? = H[q]? := fun q hq => by simp [Array.getElem?_setIfInBounds, Ne.symm hq]
  have hA : A a := hI.2.1 a _ ha1 hr1
  have hI1 := hI.set (i := 0) (e := .inl (c1, n1, .inl (va_cpy f g sp.toNatClampNeg dp.toNatClampNeg n.toNatClampNeg))) ha1 hr1 (show (H.setIfInBounds a _)[a]? = some _ by simp [Array.getElem?_setIfInBounds, hl]) (by simp) oq
  obtain ⟨t, a1, b1⟩ := kk _ _ ⟨hI1.1, hI1.2.1, hI1.2.2.1, hI1.2.2.2.1, hI1.2.2.2.2.1, fun q hq => by
      rcases List.mem_append.mp hq with h | h
      · exact hI.2.2.2.2.2 q h
      · obtain ⟨z, -, hz⟩ := List.mem_map.mp h
        rw [← hz]
        exact hA⟩ _ hheap X'
  exact ⟨t, step t a1, b1⟩
end F4
/-! THE TEXT OF BYTES -/
theorem sb_bn (c : Nat) (h : c < 256) : (sb_b c &&& 255) = nI c ∧ ((nI c).toUInt32 % 65536).toInt32 = nI c := ⟨(sb_byte c h).1, (sb_byte c h).2.1⟩
/-- a String: its object and its bytes -/
def sT (G : gG) (h : fH) (r r2 o a : Nat) (tx : Nat → Nat) (n : Nat) : Prop := ∃ (b : Nat) (cA : ClassId) (f : Nat → Int32) (fs : List Value), h a = some (r, o, .inr (10, .ref b :: .int 0 :: fs)) ∧ h b = some (r2, o, .inl (cA, n, .inl f)) ∧ gB G cA ∧ n < 2 ^ 28 ∧ ∀ i, i < n → tx i < 256 ∧ f i = sb_b (tx i)
theorem sT.keepF {G : gG} {h h' : fH} {S : Nat → Nat → Prop} {r r2 o a n : Nat} {tx : Nat → Nat} (H : sT G h r r2 o a tx n) (hF : fF S h h') (h1 : ¬ S r o) (h2 : ¬ S r2 o) : sT G h' r r2 o a tx n := by
  obtain ⟨b, cA, f, fs, g1, g2, g3⟩ := H
  exact ⟨b, cA, f, fs, hF _ _ _ _ g1 h1, hF _ _ _ _ g2 h2, g3⟩
theorem sT.keepX {G : gG} {h h' : fH} {sz o a n : Nat} {tx : Nat → Nat} (H : sT G h 0 0 o a tx n) (hX : fX h sz h') : sT G h' 0 0 o a tx n := by
  obtain ⟨b, cA, f, fs, g1, g2, g3⟩ := H
  exact ⟨b, cA, f, fs, hX.1 _ _ _ g1, hX.1 _ _ _ g2, g3⟩
