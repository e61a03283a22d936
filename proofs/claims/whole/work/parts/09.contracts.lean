/-! CONTRACTS OVER THE HEAP AS A FUNCTION. g_T: the tables' words that stay; g_cl: the classes; g_nl: the nest's links; g_al: arrays of references; g_sl: the String constants; g_zl: the statics (all of 01, 02) -/
abbrev gG : Type := va_G × (Nat → ClassId) × (ClassId → Prop) × (Nat → Nat)
def gK (G : gG) (U : State) : Prop := va_K G.1 g_cl (gTys G.2.1) U ∧ (∀ w ∈ g_nl, va_Nw w U) ∧ (∀ C ∈ g_al, va_AO C U) ∧ (∀ q ∈ g_sl, vk_R q.1 q.2.1 q.2.2.1 (G.2.2.2 q.2.2.2) U) ∧ ∀ cA, G.2.2.1 cA → fT U cA .byte
theorem gNw.warm {w : Cond} (hn : gNb w = true) {s U : State} (hW : s.WarmedH U.vm) (h : va_Nw w s) : va_Nw w U := by
  cases w <;> first | exact va_Nw.warmF hW h | exact va_Nw.warmM hW h | exact va_Nw.warmC hW h | (simp [gNb] at hn; done)
theorem gNw.same {w : Cond} (hn : gNb w = true) {u U : State} (hv : u.vm = U.vm) (h : va_Nw w u) : va_Nw w U := by
  cases w <;> first | exact va_Nw.same rfl hv h | (simp [gNb] at hn; done)
theorem gK.warm {G : gG} {s U : State} (hW : s.WarmedH U.vm) (h : gK G s) : gK G U :=
  ⟨va_K.moved hW.alike h.1, fun w hw => gNw.warm (List.all_eq_true.mp g_nl_ok w hw) hW (h.2.1 w hw), fun C hC => va_AO.moved hW.alike (h.2.2.1 C hC), fun q hq => (h.2.2.2.1 q hq).warm hW, fun cA hA => (h.2.2.2.2 cA hA).moved hW.alike⟩
theorem gK.same {G : gG} {s U : State} (hv : s.vm = U.vm) (h : gK G s) : gK G U := by
  have ha : s.vm.Alike U.vm := by rw [hv]; exact Vm.Alike.refl _
  exact ⟨va_K.moved ha h.1, fun w hw => gNw.same (List.all_eq_true.mp g_nl_ok w hw) hv (h.2.1 w hw), fun C hC => va_AO.moved ha (h.2.2.1 C hC), fun q hq => (h.2.2.2.1 q hq).same hv.symm, fun cA hA => (h.2.2.2.2 cA hA).moved ha⟩
def gZ (G : gG) (A : Nat → Prop) (U : State) (H : Heap) : Prop := ∀ z ∈ g_zl G.2.2.2, va_Z z.1 z.2.1 z.2.2.1 z.2.2.2 A U H
def gPre (G : gG) (h : fH) (sz : Nat) (U : State) : Prop := U.heap.size = sz ∧ fP G.1 g_cl h U.heap ∧ gK G U ∧ gZ G (fA h sz) U U.heap
theorem gPre.blind {G : gG} {h : fH} {sz : Nat} {av : List Value} : FrameBlind (va_Pc av (gPre G h sz)) := by
  intro a U g mk ⟨q0, q1, q2, q3, q4⟩
  exact ⟨q0, q1, q2, gK.same (s := U) (U := U.calling g mk a) rfl q3, fun z hz => (q4 z hz).moved (u := U) (U := U.calling g mk a) (Vm.Alike.refl U.vm)⟩
/-- what is known in a method's body -/
def gC (G : gG) (p : Program) (s : State) (m : MethodId) (args : Array Value) (meth : Method) (c : Code) (A : Nat → Prop) (cc : ByteArray) (maxL : Nat) (own nm : String) : Prop :=
  p.tables.exec = Jvm.exec ∧ c.code = cc ∧ c.maxLocals = maxL ∧ s.vm.findClass own = some m.cls ∧ meth.name = nm ∧ meth.locks = false ∧ (∀ w ∈ g_T, w.before args s = true) ∧ gK G s ∧ gZ G A s s.heap
/-- the contracts: an int (boolean, char ..), a long, nothing, a reference -/
abbrev cQi (G : gG) (h : fH) (sz : Nat) (post : Int32 → fH → Prop) : Array Value → State → Outcome → State → Prop := va_Qi (fun r h' => post r h' ∧ fX h sz h') (fun h' t => fP G.1 g_cl h' t.heap) (fA h sz)
abbrev cQl (G : gG) (h : fH) (sz : Nat) (post : Int64 → fH → Prop) : Array Value → State → Outcome → State → Prop := va_Ql (fun r h' => post r h' ∧ fX h sz h') (fun h' t => fP G.1 g_cl h' t.heap) (fA h sz)
abbrev cQv (G : gG) (h : fH) (sz : Nat) (post : fH → Prop) : Array Value → State → Outcome → State → Prop := va_Qv (fun h' => post h' ∧ fX h sz h') (fun h' t => fP G.1 g_cl h' t.heap) (fA h sz)
abbrev cQq (G : gG) (h : fH) (sz : Nat) (post : Option Nat → fH → Prop) : Array Value → State → Outcome → State → Prop := va_Qq (fun r h' => post r h' ∧ fX h sz h') (fun h' t => fP G.1 g_cl h' t.heap) (fA h sz)
abbrev cM (l : Launch) (y : MethodName) (cc : ByteArray) (maxL : Nat) (ret : Option FieldType) (rm : Room) (G : gG) (av : List Value) (h : fH) (sz : Nat) (Qc : Array Value → State → Outcome → State → Prop) : Prop :=
  Met l y (.code y cc maxL ret :: g_T) rm (va_Pc av (gPre G h sz)) Qc rm.cells rm.slots (fA h sz)
theorem f_start {l : Launch} {y : MethodName} {cc : ByteArray} {maxL : Nat} {ret : Option FieldType} {rm : Room} {G : gG} {av : List Value} {h : fH} {sz : Nat} {Qc : Array Value → State → Outcome → State → Prop} (hy : plainName y.cls = true) (hlen : (lg_sl av).length ≤ maxL)
    (body : ∀ (p : Program) (e : Env) (s : State) (m : MethodId) (below : List Frame) (meth : Method) (c : Code) (ls : Array Slot), gC G p s m av.toArray meth c (fA h sz) cc maxL y.cls y.name → meth.sig.returnType = ret → s.heap.size = sz → fI G.1 g_cl (fA h sz) s.heap h s.heap [] → lv_has ls maxL (lv_args 0 av) →
      W p l e rm s m av.toArray below meth c s.heap [] 0 0 (MQ below Qc av.toArray s rm.cells rm.slots (fA h sz)) (F0 m 0 ls [])) : cM l y cc maxL ret rm G av h sz Qc := by
  refine Met.ofW (cc := cc) (maxL := maxL) (ret := ret) hy rfl ?_
  intro p e s m args below meth c s₁ B hml hv
  obtain ⟨rfl, hsz, hP, hK, hZ⟩ := hv
  have hts := atoms_spec (ws := .code y cc maxL ret :: g_T) B.pre
  have hl := lv_entry av (n := maxL) hlen
  rw [lg_entry_eq]
  exact body p e s m below meth c _ ⟨B.exec, B.bytes, hml, findClass_of_methodNamed B.named, (name_of_methodNamed B.named B.method).1, B.notSynchronized, fun w hw => hts w (List.mem_cons_of_mem _ hw), hK, hZ⟩ B.returns hsz
    ⟨hP, fun a c ha hc => Or.inl ⟨c, ha, hc⟩, fun q hq => Or.inr (by omega), va_S.rf⟩ hl
/-- a method that is called -/
def gM (y : MethodName) (bytes : ByteArray) (maxL : Nat) (ret : Option FieldType) (n : Nat) : Prop := Cond.code y bytes maxL ret ∈ g_T ∧ Cond.initialized y.cls ∈ g_T ∧ (y.cls ≠ "java/lang/invoke/MethodHandle" ∧ y.cls ≠ "java/lang/invoke/VarHandle") ∧ (parseMethodDescriptor y.desc).map (fun d => d.parameters.length) = some n
section FC
variable {p : Program} {l : Launch} {e : Env} {R : Room} {s : State} {m : MethodId} {args : Array Value} {below : List Frame} {meth : Method} {c : Code} {H : Heap} {locs : List Loc} {cells slots : Nat} {Q : State → Prop}
variable {cc bytes : ByteArray} {pc nL maxL n index : Nat} {ls : Array Slot} {rest As st0 : List Value} {A : Nat → Prop} {a r o ci : Nat} {h : fH} {G : gG} {own nm : String} {y : MethodName} {rm : Room} {ret : Option FieldType} {Qc : Array Value → State → Outcome → State → Prop}
theorem f_len {sig : MethodDescriptor} (hd : (parseMethodDescriptor y.desc).map (fun d => d.parameters.length) = some n) (hs : parseMethodDescriptor y.desc = some sig) : n = sig.parameters.length := by
  rw [hs] at hd
  exact (Option.some.inj hd).symm
theorem f_free (hI : fI G.1 g_cl A s.heap h H locs) : ∀ q, fA h H.size q → A q := by
  intro q hq
  rcases hq with ⟨c, h1, h2⟩ | hq
  · exact hI.2.1 q c h1 h2
  · exact hI.2.2.1 q (Nat.le_trans hI.2.2.2.1 hq)
theorem f_pre (hC : gC G p s m args meth c A cc nL own nm) (hI : fI G.1 g_cl A s.heap h H locs) (av : List Value) : ∀ U : State, U.heap = H → s.WarmedH U.vm → va_Pc av (gPre G h H.size) av.toArray U := by
  intro U hU hW
  refine ⟨rfl, by rw [hU], by rw [hU]; exact hI.1, gK.warm hW hC.2.2.2.2.2.2.2.1, fun z hz => ?_⟩
  rw [hU]
  exact (((hC.2.2.2.2.2.2.2.2 z hz).kept hI.2.2.2.2.1).narrow (f_free hI)).moved hW.alike
theorem f_callB (hC : gC G p s m args meth c A cc nL own nm) (gm : gM y bytes maxL ret n) (hl : Cond.methodLink own index y ∈ g_T) (hR : rm.frames + 1 ≤ R.frames ∧ 8 + (maxL + 11) + rm.locals ≤ R.locals) : CallB R s args own index y bytes maxL ret (.code y bytes maxL ret :: g_T) rm rm.cells rm.slots n := by
  obtain ⟨h1, h2, h3, h4⟩ := gm
  have hT := hC.2.2.2.2.2.2.1
  have hp : ∀ w ∈ (Cond.code y bytes maxL ret :: g_T), w ∈ g_T := fun w hw => by
    rcases List.mem_cons.mp hw with q | q
    · rw [q]; exact h1
    · exact q
  exact ⟨rfl, rfl, hR.1, hR.2, fun w hw a' U hW => word_at hW (g_T_good w (hp w hw)) (hT w (hp w hw)), List.mem_cons_self, hT _ h1, hT _ h2, h3, fun sig hs => f_len h4 hs, hT _ hl⟩
theorem f_callN {host : String} (hC : gC G p s m args meth c A cc nL own nm) (gm : gM y bytes maxL ret n) (hl : Cond.methodLinkNest own index y host ∈ g_nl) (hR : rm.frames + 1 ≤ R.frames ∧ 8 + (maxL + 11) + rm.locals ≤ R.locals) : va_CN R s args own index y host bytes maxL ret (.code y bytes maxL ret :: g_T) rm rm.cells rm.slots n := by
  obtain ⟨h1, h2, h3, h4⟩ := gm
  have hT := hC.2.2.2.2.2.2.1
  have hp : ∀ w ∈ (Cond.code y bytes maxL ret :: g_T), w ∈ g_T := fun w hw => by
    rcases List.mem_cons.mp hw with q | q
    · rw [q]; exact h1
    · exact q
  exact ⟨⟨rfl, rfl, hR.1, hR.2, fun w hw a' U hW => word_at hW (g_T_good w (hp w hw)) (hT w (hp w hw)), List.mem_cons_self⟩, hT _ h1, hT _ h2, h3, fun sig hs => f_len h4 hs, va_Nw.use rfl (hC.2.2.2.2.2.2.2.1.2.1 _ hl)⟩
theorem f_recv (hC : gC G p s m args meth c A cc nL own nm) (hI : fI G.1 g_cl A s.heap h H locs) {fs : List Value} {q : vw_C} (he : h a = some (r, o, .inr (ci, fs))) (hq : g_cl[ci]? = some q) : ∃ cell : Cell, H[a]? = some cell ∧ cell.vm.isStatics = false ∧ s.vm.findClass q.1 = some cell.cls := by
  obtain ⟨r', cell, h1, q1, q2, q3, q5, q4⟩ := (hI.1 a _ he).1
  exact ⟨cell, q1, q5, by rw [q2]; exact (hC.2.2.2.2.2.2.2.1.1.1 ci q hq).2.1⟩
/-- invokevirtual, of the receiver's own class -/
theorem f_runV (hC : gC G p s m args meth c A cc nL own nm) (hI : fI G.1 g_cl A s.heap h H locs) (hM : cM l y bytes maxL ret rm G (.ref a :: As) h H.size Qc) (gm : gM y bytes maxL ret n) (hi : Cond.instanceMethod y ∈ g_T) (hs : Cond.selects y.cls y y ∈ g_T) (hl : Cond.methodLink own index y ∈ g_T) {fs : List Value} {q : vw_C} (he : h a = some (r, o, .inr (ci, fs))) (hq : g_cl[ci]? = some q) (hqc : q.1 = y.cls)
    (hn : As.length = n) (hsize : ls.size = nL) (hstack : st0 = As.reverse ++ .ref a :: rest) (hW : (rest.map fun v => v.category).sum ≤ 8) (hR : rm.frames + 1 ≤ R.frames ∧ 8 + (maxL + 11) + rm.locals ≤ R.locals) (hdg : decode cc pc = .ok (.invokevirtual index, 3)) (hf : cells + rm.cells ≤ R.cells ∧ slots + rm.slots ≤ R.slots) :
    va_Run p l e R s m args below meth c H locs cells slots rm.cells rm.slots (F0 m pc ls st0) rest (Qc (Value.ref a :: As).toArray) (fA h H.size) :=
  va_runV (C := y.cls) ⟨hC.1, hC.2.1, hC.2.2.1, hC.2.2.2.1, hC.2.2.2.2.2.2.1⟩ hM ⟨f_callB hC gm hl hR, hC.2.2.2.2.2.2.1 _ hi, hC.2.2.2.2.2.2.1 _ hs⟩ ⟨gPre.blind, by rw [← hqc]; exact f_recv hC hI he hq, f_pre hC hI _⟩ rfl hn hsize hstack (lv_room hW) hdg hf
theorem f_runVN {host : String} (hC : gC G p s m args meth c A cc nL own nm) (hI : fI G.1 g_cl A s.heap h H locs) (hM : cM l y bytes maxL ret rm G (.ref a :: As) h H.size Qc) (gm : gM y bytes maxL ret n) (hi : Cond.instanceMethod y ∈ g_T) (hs : Cond.selects y.cls y y ∈ g_T) (hl : Cond.methodLinkNest own index y host ∈ g_nl) {fs : List Value} {q : vw_C} (he : h a = some (r, o, .inr (ci, fs))) (hq : g_cl[ci]? = some q) (hqc : q.1 = y.cls)
    (hn : As.length = n) (hsize : ls.size = nL) (hstack : st0 = As.reverse ++ .ref a :: rest) (hW : (rest.map fun v => v.category).sum ≤ 8) (hR : rm.frames + 1 ≤ R.frames ∧ 8 + (maxL + 11) + rm.locals ≤ R.locals) (hdg : decode cc pc = .ok (.invokevirtual index, 3)) (hf : cells + rm.cells ≤ R.cells ∧ slots + rm.slots ≤ R.slots) :
    va_Run p l e R s m args below meth c H locs cells slots rm.cells rm.slots (F0 m pc ls st0) rest (Qc (Value.ref a :: As).toArray) (fA h H.size) :=
  va_runVN (C := y.cls) ⟨hC.1, hC.2.1, hC.2.2.1, hC.2.2.2.1, hC.2.2.2.2.2.2.1⟩ hM ⟨f_callN hC gm hl hR, hC.2.2.2.2.2.2.1 _ hi, hC.2.2.2.2.2.2.1 _ hs⟩ ⟨gPre.blind, by rw [← hqc]; exact f_recv hC hI he hq, f_pre hC hI _⟩ rfl hn hsize hstack (lv_room hW) hdg hf
theorem f_runS (hC : gC G p s m args meth c A cc nL own nm) (hI : fI G.1 g_cl A s.heap h H locs) (hM : cM l y bytes maxL ret rm G As h H.size Qc) (gm : gM y bytes maxL ret n) (hi : Cond.static y ∈ g_T) (hl : Cond.methodLink own index y ∈ g_T)
    (hn : As.length = n) (hsize : ls.size = nL) (hstack : st0 = As.reverse ++ rest) (hW : (rest.map fun v => v.category).sum ≤ 8) (hR : rm.frames + 1 ≤ R.frames ∧ 8 + (maxL + 11) + rm.locals ≤ R.locals) (hdg : decode cc pc = .ok (.invokestatic index, 3)) (hf : cells + rm.cells ≤ R.cells ∧ slots + rm.slots ≤ R.slots) :
    va_Run p l e R s m args below meth c H locs cells slots rm.cells rm.slots (F0 m pc ls st0) rest (Qc As.toArray) (fA h H.size) :=
  va_runS ⟨hC.1, hC.2.1, hC.2.2.1, hC.2.2.2.1, hC.2.2.2.2.2.2.1⟩ hM ⟨f_callB hC gm hl hR, hC.2.2.2.2.2.2.1 _ hi⟩ ⟨gPre.blind, f_pre hC hI _⟩ rfl hn hsize hstack (lv_room hW) hdg hf
theorem f_runSN {host : String} (hC : gC G p s m args meth c A cc nL own nm) (hI : fI G.1 g_cl A s.heap h H locs) (hM : cM l y bytes maxL ret rm G As h H.size Qc) (gm : gM y bytes maxL ret n) (hi : Cond.static y ∈ g_T) (hl : Cond.methodLinkNest own index y host ∈ g_nl)
    (hn : As.length = n) (hsize : ls.size = nL) (hstack : st0 = As.reverse ++ rest) (hW : (rest.map fun v => v.category).sum ≤ 8) (hR : rm.frames + 1 ≤ R.frames ∧ 8 + (maxL + 11) + rm.locals ≤ R.locals) (hdg : decode cc pc = .ok (.invokestatic index, 3)) (hf : cells + rm.cells ≤ R.cells ∧ slots + rm.slots ≤ R.slots) :
    va_Run p l e R s m args below meth c H locs cells slots rm.cells rm.slots (F0 m pc ls st0) rest (Qc As.toArray) (fA h H.size) :=
  va_runSN ⟨hC.1, hC.2.1, hC.2.2.1, hC.2.2.2.1, hC.2.2.2.2.2.2.1⟩ hM ⟨f_callN hC gm hl hR, hC.2.2.2.2.2.2.1 _ hi, trivial⟩ ⟨gPre.blind, f_pre hC hI _⟩ rfl hn hsize hstack (lv_room hW) hdg hf
theorem f_runI (hC : gC G p s m args meth c A cc nL own nm) (hI : fI G.1 g_cl A s.heap h H locs) (hM : cM l y bytes maxL none rm G (.ref a :: As) h H.size Qc) (gm : gM y bytes maxL none n) (hi : Cond.instanceMethod y ∈ g_T) (hy1 : y.name = "<init>") (hl : Cond.methodLink own index y ∈ g_T)
    (hn : As.length = n) (hsize : ls.size = nL) (hstack : st0 = As.reverse ++ .ref a :: rest) (hW : (rest.map fun v => v.category).sum ≤ 8) (hR : rm.frames + 1 ≤ R.frames ∧ 8 + (maxL + 11) + rm.locals ≤ R.locals) (hdg : decode cc pc = .ok (.invokespecial index, 3)) (hf : cells + rm.cells ≤ R.cells ∧ slots + rm.slots ≤ R.slots) :
    va_Run p l e R s m args below meth c H locs cells slots rm.cells rm.slots (F0 m pc ls st0) rest (Qc (Value.ref a :: As).toArray) (fA h H.size) :=
  va_runI ⟨hC.1, hC.2.1, hC.2.2.1, hC.2.2.2.1, hC.2.2.2.2.2.2.1⟩ hM ⟨f_callB hC gm hl hR, hy1, hC.2.2.2.2.2.2.1 _ hi⟩ ⟨gPre.blind, f_pre hC hI _⟩ rfl hn hsize hstack (lv_room hW) hdg hf
theorem f_runIN {host : String} (hC : gC G p s m args meth c A cc nL own nm) (hI : fI G.1 g_cl A s.heap h H locs) (hM : cM l y bytes maxL none rm G (.ref a :: As) h H.size Qc) (gm : gM y bytes maxL none n) (hi : Cond.instanceMethod y ∈ g_T) (hy1 : y.name = "<init>") (hl : Cond.methodLinkNest own index y host ∈ g_nl)
    (hn : As.length = n) (hsize : ls.size = nL) (hstack : st0 = As.reverse ++ .ref a :: rest) (hW : (rest.map fun v => v.category).sum ≤ 8) (hR : rm.frames + 1 ≤ R.frames ∧ 8 + (maxL + 11) + rm.locals ≤ R.locals) (hdg : decode cc pc = .ok (.invokespecial index, 3)) (hf : cells + rm.cells ≤ R.cells ∧ slots + rm.slots ≤ R.slots) :
    va_Run p l e R s m args below meth c H locs cells slots rm.cells rm.slots (F0 m pc ls st0) rest (Qc (Value.ref a :: As).toArray) (fA h H.size) :=
  va_runIN ⟨hC.1, hC.2.1, hC.2.2.1, hC.2.2.2.1, hC.2.2.2.2.2.2.1⟩ hM ⟨f_callN hC gm hl hR, hy1, hC.2.2.2.2.2.2.1 _ hi⟩ ⟨gPre.blind, f_pre hC hI _⟩ rfl hn hsize hstack (lv_room hW) hdg hf
theorem f_dom (hI : fI G.1 g_cl A s.heap h H locs) {h' : fH} (hX : fX h H.size h') : ∀ (a : Nat) (c : fC), h' a = some c → c.1 ≠ 0 → A a := by
  intro a c ha hc
  rcases hX.2 a c ha hc with ⟨c', h1, h2⟩ | h1
  · exact hI.2.1 a c' h1 h2
  · exact hI.2.2.1 a (Nat.le_trans hI.2.2.2.1 h1)
variable {mc ms : Nat} {av : Array Value}
theorem f_calli {post : Int32 → fH → Prop} (hI : fI G.1 g_cl A s.heap h H locs) (hr : va_Run p l e R s m args below meth c H locs cells slots mc ms (F0 m pc ls st0) rest (cQi G h H.size post av) (fA h H.size))
    (kk : ∀ (r : Int32) (h' : fH) (H1 : Heap) (locs : List Loc), post r h' → fX h H.size h' → H.size ≤ H1.size → fI G.1 g_cl A s.heap h' H1 locs → W p l e R s m args below meth c H1 locs (cells + mc) (slots + ms) Q (F0 m (pc + 3) ls (.int r :: rest))) : W p l e R s m args below meth c H locs cells slots Q (F0 m pc ls st0) :=
  va_calli hr hI.2.2.2 (fun q _ hq => f_free hI q hq) (f_free hI) (fun r h' t H1 locs1 ht _ hp hB hz _ hS => kk r h' H1 locs1 hp.1 hp.2 hz ⟨by rw [← ht]; exact hB, f_dom hI hp.2, hI.2.2.1, hS⟩)
theorem f_calll {post : Int64 → fH → Prop} (hI : fI G.1 g_cl A s.heap h H locs) (hr : va_Run p l e R s m args below meth c H locs cells slots mc ms (F0 m pc ls st0) rest (cQl G h H.size post av) (fA h H.size))
    (kk : ∀ (r : Int64) (h' : fH) (H1 : Heap) (locs : List Loc), post r h' → fX h H.size h' → H.size ≤ H1.size → fI G.1 g_cl A s.heap h' H1 locs → W p l e R s m args below meth c H1 locs (cells + mc) (slots + ms) Q (F0 m (pc + 3) ls (.long r :: rest))) : W p l e R s m args below meth c H locs cells slots Q (F0 m pc ls st0) :=
  va_calll hr hI.2.2.2 (fun q _ hq => f_free hI q hq) (f_free hI) (fun r h' t H1 locs1 ht _ hp hB hz _ hS => kk r h' H1 locs1 hp.1 hp.2 hz ⟨by rw [← ht]; exact hB, f_dom hI hp.2, hI.2.2.1, hS⟩)
theorem f_callv {post : fH → Prop} (hI : fI G.1 g_cl A s.heap h H locs) (hr : va_Run p l e R s m args below meth c H locs cells slots mc ms (F0 m pc ls st0) rest (cQv G h H.size post av) (fA h H.size))
    (kk : ∀ (h' : fH) (H1 : Heap) (locs : List Loc), post h' → fX h H.size h' → H.size ≤ H1.size → fI G.1 g_cl A s.heap h' H1 locs → W p l e R s m args below meth c H1 locs (cells + mc) (slots + ms) Q (F0 m (pc + 3) ls rest)) : W p l e R s m args below meth c H locs cells slots Q (F0 m pc ls st0) :=
  va_callv hr hI.2.2.2 (fun q _ hq => f_free hI q hq) (f_free hI) (fun h' t H1 locs1 ht _ hp hB hz _ hS => kk h' H1 locs1 hp.1 hp.2 hz ⟨by rw [← ht]; exact hB, f_dom hI hp.2, hI.2.2.1, hS⟩)
theorem f_callq {post : Option Nat → fH → Prop} (hI : fI G.1 g_cl A s.heap h H locs) (hr : va_Run p l e R s m args below meth c H locs cells slots mc ms (F0 m pc ls st0) rest (cQq G h H.size post av) (fA h H.size))
    (kk : ∀ (r : Option Nat) (h' : fH) (H1 : Heap) (locs : List Loc), post r h' → fX h H.size h' → H.size ≤ H1.size → fI G.1 g_cl A s.heap h' H1 locs → W p l e R s m args below meth c H1 locs (cells + mc) (slots + ms) Q (F0 m (pc + 3) ls (va_rf r :: rest))) : W p l e R s m args below meth c H locs cells slots Q (F0 m pc ls st0) :=
  va_callq hr hI.2.2.2 (fun q _ hq => f_free hI q hq) (f_free hI) (fun r h' t H1 locs1 ht _ hp hB hz _ hS => kk r h' H1 locs1 hp.1 hp.2 hz ⟨by rw [← ht]; exact hB, f_dom hI hp.2, hI.2.2.1, hS⟩)
variable {h0 : fH} {sz k k2 : Nat}
theorem f_iret {post : Int32 → fH → Prop} {v : Int32} (hC : gC G p s m args meth c (fA h0 sz) cc nL own nm) (hr : meth.sig.returnType = some .int) (hI : fI G.1 g_cl (fA h0 sz) s.heap h H locs) (hp : post v h) (hX : fX h0 sz h) (hk : cells ≤ k) (hk2 : slots ≤ k2) (hdg : decode cc pc = .ok (.ireturn, 1)) :
    W p l e R s m args below meth c H locs cells slots (MQ below (cQi G h0 sz post) args s k k2 (fA h0 sz)) (F0 m pc ls [.int v]) :=
  W.widen hk hk2 (W.iret hC.1 hC.2.1 hr (fun t ht _ => ⟨⟨v, h, rfl, ⟨hp, hX⟩, (by show fP _ _ _ t.heap; rw [ht]; exact hI.1)⟩, hI.2.2.2.F ht⟩) hI.2.2.2.2.2 hdg hC.2.2.2.2.2.1)
theorem f_zret {post : Int32 → fH → Prop} {v : Int32} {ty : FieldType} (hC : gC G p s m args meth c (fA h0 sz) cc nL own nm) (hr : meth.sig.returnType = some ty) (hn : narrow ty (.int v) = .int v) (hI : fI G.1 g_cl (fA h0 sz) s.heap h H locs) (hp : post v h) (hX : fX h0 sz h) (hk : cells ≤ k) (hk2 : slots ≤ k2) (hdg : decode cc pc = .ok (.ireturn, 1)) :
    W p l e R s m args below meth c H locs cells slots (MQ below (cQi G h0 sz post) args s k k2 (fA h0 sz)) (F0 m pc ls [.int v]) :=
  W.widen hk hk2 (W.zret hC.1 hC.2.1 hr hn (fun t ht _ => ⟨⟨v, h, rfl, ⟨hp, hX⟩, (by show fP _ _ _ t.heap; rw [ht]; exact hI.1)⟩, hI.2.2.2.F ht⟩) hI.2.2.2.2.2 hdg hC.2.2.2.2.2.1)
theorem f_lret {post : Int64 → fH → Prop} {v : Int64} (hC : gC G p s m args meth c (fA h0 sz) cc nL own nm) (hr : meth.sig.returnType = some .long) (hI : fI G.1 g_cl (fA h0 sz) s.heap h H locs) (hp : post v h) (hX : fX h0 sz h) (hk : cells ≤ k) (hk2 : slots ≤ k2) (hdg : decode cc pc = .ok (.lreturn, 1)) :
    W p l e R s m args below meth c H locs cells slots (MQ below (cQl G h0 sz post) args s k k2 (fA h0 sz)) (F0 m pc ls [.long v]) :=
  W.widen hk hk2 (W.lret hC.1 hC.2.1 hr (fun t ht _ => ⟨⟨v, h, rfl, ⟨hp, hX⟩, (by show fP _ _ _ t.heap; rw [ht]; exact hI.1)⟩, hI.2.2.2.F ht⟩) hI.2.2.2.2.2 hdg hC.2.2.2.2.2.1)
theorem f_vret {post : fH → Prop} (hC : gC G p s m args meth c (fA h0 sz) cc nL own nm) (hr : meth.sig.returnType = none) (hI : fI G.1 g_cl (fA h0 sz) s.heap h H locs) (hp : post h) (hX : fX h0 sz h) (hk : cells ≤ k) (hk2 : slots ≤ k2) (hdg : decode cc pc = .ok (.return_, 1)) :
    W p l e R s m args below meth c H locs cells slots (MQ below (cQv G h0 sz post) args s k k2 (fA h0 sz)) (F0 m pc ls []) :=
  W.widen hk hk2 (W.vret hC.1 hC.2.1 hr (fun t ht _ => ⟨⟨h, rfl, ⟨hp, hX⟩, (by show fP _ _ _ t.heap; rw [ht]; exact hI.1)⟩, hI.2.2.2.F ht⟩) hI.2.2.2.2.2 hdg hC.2.2.2.2.2.1)
theorem f_aret {post : Option Nat → fH → Prop} {v : Option Nat} {rt : FieldType} (hC : gC G p s m args meth c (fA h0 sz) cc nL own nm) (hr : meth.sig.returnType = some rt) (hrt : (∃ n, rt = .object n) ∨ ∃ t, rt = .array t) (hI : fI G.1 g_cl (fA h0 sz) s.heap h H locs) (hp : post v h) (hX : fX h0 sz h) (hk : cells ≤ k) (hk2 : slots ≤ k2) (hdg : decode cc pc = .ok (.areturn, 1)) :
    W p l e R s m args below meth c H locs cells slots (MQ below (cQq G h0 sz post) args s k k2 (fA h0 sz)) (F0 m pc ls [va_rf v]) :=
  W.widen hk hk2 (W.aret hC.1 hC.2.1 hr hrt (va_rf_or v) (fun t ht _ => ⟨⟨v, h, rfl, ⟨hp, hX⟩, (by show fP _ _ _ t.heap; rw [ht]; exact hI.1)⟩, hI.2.2.2.F ht⟩) hI.2.2.2.2.2 hdg hC.2.2.2.2.2.1)
end FC
