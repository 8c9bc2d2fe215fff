/-! Methods that may throw; new ways. -/
abbrev xB (z : bZ) : String → String × bS → State → Prop := fun E u t => E = u.1 ∧ hI z u.2.1 u.2.2.1 u.2.2.2 t.heap
abbrev xX (z : bZ) (px : String → bS → Prop) : String → State → State → Prop := vx_X (fun u : String × bS => px u.1 u.2) (xB z) (zA z)
abbrev qR (z : bZ) (post : Nat → bS → Prop) : Array Value → State → Outcome → State → Prop := va_Qr (S := Nat × bS) (fun u => post u.1 u.2) (fun u a t => a = u.1 ∧ hI z u.2.1 u.2.2.1 u.2.2.2 t.heap) (zA z)
def nmE : List String := ["java/lang/RuntimeException", "java/lang/Exception"]
theorem atA : ∀ w ∈ (vx_atS RX9 155 xIA nmE).filter goodWord, w ∈ uW := by decide +kernel
theorem atS : ∀ w ∈ (vx_atS RX9 90 xIS nmE).filter goodWord, w ∈ uW := by decide +kernel
def bdA : List Cond := [.declares ⟨"java/lang/RuntimeException", "<init>", "(Ljava/lang/String;)V"⟩, .declares ⟨"java/lang/Exception", "<init>", "(Ljava/lang/String;)V"⟩, .declares ⟨"java/lang/Throwable", "<init>", "(Ljava/lang/String;)V"⟩, .castable xIA xIA]
def bdS : List Cond := [.declares ⟨"java/lang/RuntimeException", "<init>", "(Ljava/lang/String;)V"⟩, .declares ⟨"java/lang/Exception", "<init>", "(Ljava/lang/String;)V"⟩, .declares ⟨"java/lang/Throwable", "<init>", "(Ljava/lang/String;)V"⟩, .castable xIS xIS]
theorem atA2 : ∀ w ∈ (vx_atS RX9 155 xIA nmE).filter (fun w => !goodWord w), w ∈ bdA := by decide +kernel
theorem atS2 : ∀ w ∈ (vx_atS RX9 90 xIS nmE).filter (fun w => !goodWord w), w ∈ bdS := by decide +kernel
theorem otA : ∀ w ∈ Cond.classLink RX9 151 xIA :: Cond.initialized xIA :: vx_atS RX9 155 xIA nmE, vx_ot w = true := by decide +kernel
theorem otS : ∀ w ∈ Cond.classLink RX9 86 xIS :: Cond.initialized xIS :: vx_atS RX9 90 xIS nmE, vx_ot w = true := by decide +kernel
theorem ukA : Cond.classLink RX9 151 xIA ∈ uW := uW_of (by decide +kernel) rfl
theorem ukS : Cond.classLink RX9 86 xIS ∈ uW := uW_of (by decide +kernel) rfl
theorem uiA : Cond.initialized xIA ∈ uW := uW_of (by decide +kernel) rfl
theorem uiS : Cond.initialized xIS ∈ uW := uW_of (by decide +kernel) rfl
theorem fitE : ∀ n ∈ nmE, Bundle.fit n = true := by decide +kernel
section THROWS
variable {p : Program} {l : Launch} {e : Env} {R : Room} {s : State} {m : MethodId} {args : Array Value} {below : List Frame} {meth : Method} {c : Code} {H : Heap} {locs : List Loc} {cells slots : Nat} {Q : State → Prop}
variable {z : bZ} {v : bV} {sc : Nat → Int32} {ar : Nat → Nat → Int32} {cc : ByteArray} {nL : Nat} {own : String} {pc : Nat} {ls : Array Slot} {rest : List Value}
abbrev noT (c : Code) : Prop := ∀ x ∈ c.exceptionTable.toList, False
/-- the contract of a method that may throw, out of its walk -/
theorem eX {y : MethodName} {ret : Option FieldType} {rm : Room} {av : List Value} {Qc : Array Value → State → Outcome → State → Prop} {px : String → bS → Prop} {mc ms : Nat} (hy : plainName y.cls = true) (hav : (lg_sl av).length ≤ nL)
    (body : ∀ (p : Program) (e : Env) (s : State) (m : MethodId) (below : List Frame) (meth : Method) (c : Code) (ls : Array Slot), cX z p m c cc nL s av.toArray y.cls → meth.sig.returnType = ret → meth.locks = false → noT c → hH z v sc ar s s.heap [] → lv_has ls nL (lv_args 0 av) →
      W p l e rm s m av.toArray below meth c s.heap [] 0 0 (vx_MQ below Qc (xX z px) av.toArray s mc ms (zA z)) (F0 m 0 ls [])) : vx_Met l y (Cond.code y cc nL ret :: uW) rm (pC z v sc ar av) Qc (xX z px) mc ms (zA z) := by
  refine vx_ofW (cc := cc) (maxL := nL) (ret := ret) hy rfl ?_
  intro p e s m args below meth c s₁ B hml ht hv
  obtain ⟨rfl, hE, hh⟩ := hv
  have hts := atoms_spec (ws := Cond.code y cc nL ret :: uW) B.pre
  have hl := lv_entry av (n := nL) hav
  rw [lg_entry_eq]
  exact body p e s m below meth c _ ⟨⟨B.exec, B.bytes, hml, findClass_of_methodNamed B.named, fun w hw => hts w (List.mem_cons_of_mem _ hw)⟩, hE⟩ B.returns B.notSynchronized ht ⟨hh, va_S.rf⟩ hl
/-- a constructor's contract -/
theorem eN {y : MethodName} {ret : Option FieldType} {rm : Room} {av : List Value} {Qc : Array Value → State → Outcome → State → Prop} {mc ms : Nat} (hy : plainName y.cls = true) (hav : (lg_sl av).length ≤ nL)
    (body : ∀ (p : Program) (e : Env) (s : State) (m : MethodId) (below : List Frame) (meth : Method) (c : Code) (ls : Array Slot), cX z p m c cc nL s av.toArray y.cls → meth.sig.returnType = ret → meth.locks = false → meth.name = y.name → hH z v sc ar s s.heap [] → lv_has ls nL (lv_args 0 av) →
      W p l e rm s m av.toArray below meth c s.heap [] 0 0 (MQ below Qc av.toArray s mc ms (zA z)) (F0 m 0 ls [])) : Met l y (Cond.code y cc nL ret :: uW) rm (pC z v sc ar av) Qc mc ms (zA z) := by
  refine Met.ofW (cc := cc) (maxL := nL) (ret := ret) hy rfl ?_
  intro p e s m args below meth c s₁ B hml hv
  obtain ⟨rfl, hE, hh⟩ := hv
  have hts := atoms_spec (ws := Cond.code y cc nL ret :: uW) B.pre
  have hl := lv_entry av (n := nL) hav
  rw [lg_entry_eq]
  exact body p e s m below meth c _ ⟨⟨B.exec, B.bytes, hml, findClass_of_methodNamed B.named, fun w hw => hts w (List.mem_cons_of_mem _ hw)⟩, hE⟩ B.returns B.notSynchronized (name_of_methodNamed B.named B.method).1 ⟨hh, va_S.rf⟩ hl
theorem hI_grow {H1 : Heap} (h : hI z v sc ar H) (hk : ∀ q : Nat, q < H.size → H1[q]? = H[q]?) : hI z v sc ar H1 := ⟨h.1.kept (fun k x hx => hk x.1 ((h.1 k x hx).lt)), h.2⟩
theorem xMade {px : String → bS → Prop} {E : String} (h : hH z v sc ar s H locs) (hp : px E (v, sc, ar)) : ∀ t : State, s.vm.Alike t.vm → H.size ≤ t.heap.size → (∀ q : Nat, q < H.size → t.heap[q]? = H[q]?) → xX z px E s t := fun t _ hz hk =>
  ⟨(E, v, sc, ar), hp, ⟨rfl, hI_grow h.1 hk⟩, Nat.le_trans h.2.1 hz, fun q h1 h2 => (hk q (Nat.lt_of_lt_of_le h1 h.2.1)).trans (h.2.2.1 q h1 h2)⟩
theorem xBad {args : Array Value} {s : State} (h : ∀ w ∈ nwD, va_Nw w s) {a b c : Cond} {d : Cond} (i : Nat) (ha : nwD[2]? = some a) (hb : nwD[3]? = some b) (hc : nwD[4]? = some c) (hd : va_Nw d s) (ta : a.onTables = true) (tb : b.onTables = true) (tc : c.onTables = true) (td : d.onTables = true) : ∀ w ∈ [a, b, c, d], w.before args s = true :=
  vx_c (va_any ta (h _ (List.mem_of_getElem? ha))) (vx_c (va_any tb (h _ (List.mem_of_getElem? hb))) (vx_c (va_any tc (h _ (List.mem_of_getElem? hc))) (vx_c (va_any td hd) vx_n)))
/-- throw new IllegalArgumentException(text) -/
theorem xTA {is : Nat} {text : String} {Qc : Array Value → State → Outcome → State → Prop} {px : String → bS → Prop} {mc ms : Nat} (C : cX z p m c cc nL s args RX9) (hl0 : l.stackTraces = false) (ht : noT c) (hlk : meth.locks = false) (h : hH z v sc ar s H locs) (hl : ls.size = nL) (hstr : (is, text) ∈ strL)
    (d0 : decode cc pc = .ok (.new 151, 3)) (d3 : decode cc (pc + 3) = .ok (.dup, 1)) (d4 : decode cc (pc + 4) = .ok (.ldc is, 2)) (d6 : decode cc (pc + 6) = .ok (.invokespecial 155, 3)) (d9 : decode cc (pc + 9) = .ok (.athrow, 1))
    (hR : 6 ≤ R.frames ∧ 90 ≤ R.locals) (hcs : cells + 1 ≤ R.cells ∧ slots + 6 ≤ R.slots) (hrest : (rest.map fun v => v.category).sum ≤ 8) (hc : cells + 1 ≤ mc) (hs : slots + 6 ≤ ms) (hp : px xIA (v, sc, ar)) :
    W p l e R s m args below meth c H locs cells slots (vx_MQ below Qc (xX z px) args s mc ms (zA z)) (F0 m pc ls rest) := by
  obtain ⟨sa, hsa⟩ := C.2.2.2.2.2.2.2.1 _ hstr
  exact vx_throwS (own := RX9) (cls := xIA) (names := nmE) C.1.1 C.1.2.1 hl0 C.1.2.2.2.1 (by decide +kernel) fitE (C.1.2.2.2.2 _ ukA) (C.1.2.2.2.2 _ uiA) hsa (vx_hat (fun w hw => C.1.2.2.2.2 _ (atA w hw)) atA2 (xBad C.2.2.2.2.2.2.2.2.1 0 rfl rfl rfl (C.2.2.2.2.2.2.2.2.2.1 _ (List.mem_of_getElem? (i := 3) rfl)) rfl rfl rfl rfl)) otA
    C.2.2.2.2.2.2.1.1 C.2.2.2.2.2.2.1.2 h.2 (hl.trans C.1.2.2.1.symm) d0 d3 d4 d6 d9 (fun x hx => (ht x hx).elim) (by show 2 + 3 < _; omega) (by show _ + (13 * (2 + 1) + 43) ≤ _; omega) hcs.1 hcs.2 hlk (xMade h hp) h.2.2.2 hc hs
/-- throw new IllegalStateException(text) -/
theorem xTS {is : Nat} {text : String} {Qc : Array Value → State → Outcome → State → Prop} {px : String → bS → Prop} {mc ms : Nat} (C : cX z p m c cc nL s args RX9) (hl0 : l.stackTraces = false) (ht : noT c) (hlk : meth.locks = false) (h : hH z v sc ar s H locs) (hl : ls.size = nL) (hstr : (is, text) ∈ strL)
    (d0 : decode cc pc = .ok (.new 86, 3)) (d3 : decode cc (pc + 3) = .ok (.dup, 1)) (d4 : decode cc (pc + 4) = .ok (.ldc is, 2)) (d6 : decode cc (pc + 6) = .ok (.invokespecial 90, 3)) (d9 : decode cc (pc + 9) = .ok (.athrow, 1))
    (hR : 6 ≤ R.frames ∧ 90 ≤ R.locals) (hcs : cells + 1 ≤ R.cells ∧ slots + 6 ≤ R.slots) (hrest : (rest.map fun v => v.category).sum ≤ 8) (hc : cells + 1 ≤ mc) (hs : slots + 6 ≤ ms) (hp : px xIS (v, sc, ar)) :
    W p l e R s m args below meth c H locs cells slots (vx_MQ below Qc (xX z px) args s mc ms (zA z)) (F0 m pc ls rest) := by
  obtain ⟨sa, hsa⟩ := C.2.2.2.2.2.2.2.1 _ hstr
  exact vx_throwS (own := RX9) (cls := xIS) (names := nmE) C.1.1 C.1.2.1 hl0 C.1.2.2.2.1 (by decide +kernel) fitE (C.1.2.2.2.2 _ ukS) (C.1.2.2.2.2 _ uiS) hsa (vx_hat (fun w hw => C.1.2.2.2.2 _ (atS w hw)) atS2 (xBad C.2.2.2.2.2.2.2.2.1 0 rfl rfl rfl (C.2.2.2.2.2.2.2.2.2.1 _ (List.mem_of_getElem? (i := 4) rfl)) rfl rfl rfl rfl)) otS
    C.2.2.2.2.2.2.1.1 C.2.2.2.2.2.2.1.2 h.2 (hl.trans C.1.2.2.1.symm) d0 d3 d4 d6 d9 (fun x hx => (ht x hx).elim) (by show 2 + 3 < _; omega) (by show _ + (13 * (2 + 1) + 43) ≤ _; omega) hcs.1 hcs.2 hlk (xMade h hp) h.2.2.2 hc hs
/-- an exception that is not caught here -/
theorem xOut {Qc : Array Value → State → Outcome → State → Prop} {px : String → bS → Prop} {mc ms q : Nat} {E : String} {ce : Cell} (ht : noT c) (hlk : meth.locks = false) (h : hH z v sc ar s H locs) (hcell : H[q]? = some ce) (hcv : ce.vm = .none) (hcl : s.vm.findClass E = some ce.cls) (hc : cells ≤ mc) (hs : slots ≤ ms) (hp : px E (v, sc, ar)) :
    vx_W p l e R s m args below meth c H locs cells slots (vx_MQ below Qc (xX z px) args s mc ms (zA z)) (F0 m pc ls rest) q :=
  vx_out (fun x hx => (ht x hx).elim) hlk hcell hcv hcl (fun t e _ => ⟨(E, v, sc, ar), hp, ⟨rfl, by show hI z v sc ar t.heap; rw [e]; exact h.1⟩, h.2.F e⟩) h.2.2.2 hc hs
section XCALLS
variable {y : MethodName} {bytes : ByteArray} {maxL mc ms n ix : Nat} {ret : Option FieldType} {rm : Room} {Cn : String} {b : Nat} {As : List Value}
abbrev xK (p : Program) (l : Launch) (e : Env) (R : Room) (s : State) (m : MethodId) (args : Array Value) (below : List Frame) (meth : Method) (c : Code) (cells slots : Nat) (Q : State → Prop) (z : bZ) (px : String → bS → Prop) (pc : Nat) (ls : Array Slot) (rest : List Value) : Prop := ∀ (E : String) (ce : Cell) (q : Nat) (v' : bV) (sc' : Nat → Int32) (ar' : Nat → Nat → Int32) (H' : Heap) (locs' : List Loc), px E (v', sc', ar') → hH z v' sc' ar' s H' locs' → H'[q]? = some ce → ce.vm = .none → s.vm.findClass E = some ce.cls → vx_W p l e R s m args below meth c H' locs' cells slots Q (F0 m pc ls rest) q
theorem xbI {post : Int32 → bS → Prop} {px : String → bS → Prop} {a : Array Value} {st0 : List Value} (h : hH z v sc ar s H locs) (hr : vx_Run p l e R s m args below meth c H locs cells slots mc ms (F0 m pc ls st0) rest (qI z post a) (xX z px) (zA z))
    (kx : xK p l e R s m args below meth c (cells + mc) (slots + ms) Q z px pc ls rest)
    (kk : ∀ (r : Int32) (v' : bV) (sc' : Nat → Int32) (ar' : Nat → Nat → Int32) (H' : Heap) (locs' : List Loc), post r (v', sc', ar') → hH z v' sc' ar' s H' locs' → W p l e R s m args below meth c H' locs' (cells + mc) (slots + ms) Q (F0 m (pc + 3) ls (.int r :: rest))) : W p l e R s m args below meth c H locs cells slots Q (F0 m pc ls st0) :=
  vx_calli hr h.2 (fun _ _ q => q) (fun _ q => q) (fun _ _ q => q) (fun E ce q u t H1 locs1 ht _ hp hB _ _ hS h1 h2 h3 => by obtain ⟨rfl, hB⟩ := hB; exact kx u.1 ce q u.2.1 u.2.2.1 u.2.2.2 H1 locs1 hp ⟨by rw [← ht]; exact hB, hS⟩ h1 h2 h3) (fun r u t H1 locs1 ht _ hp hB _ _ hS => kk r u.1 u.2.1 u.2.2 H1 locs1 hp ⟨by rw [← ht]; exact hB, hS⟩)
theorem xbV {post : bS → Prop} {px : String → bS → Prop} {a : Array Value} {st0 : List Value} (h : hH z v sc ar s H locs) (hr : vx_Run p l e R s m args below meth c H locs cells slots mc ms (F0 m pc ls st0) rest (qV z post a) (xX z px) (zA z))
    (kx : xK p l e R s m args below meth c (cells + mc) (slots + ms) Q z px pc ls rest)
    (kk : ∀ (v' : bV) (sc' : Nat → Int32) (ar' : Nat → Nat → Int32) (H' : Heap) (locs' : List Loc), post (v', sc', ar') → hH z v' sc' ar' s H' locs' → W p l e R s m args below meth c H' locs' (cells + mc) (slots + ms) Q (F0 m (pc + 3) ls rest)) : W p l e R s m args below meth c H locs cells slots Q (F0 m pc ls st0) :=
  vx_callv hr h.2 (fun _ _ q => q) (fun _ q => q) (fun _ _ q => q) (fun E ce q u t H1 locs1 ht _ hp hB _ _ hS h1 h2 h3 => by obtain ⟨rfl, hB⟩ := hB; exact kx u.1 ce q u.2.1 u.2.2.1 u.2.2.2 H1 locs1 hp ⟨by rw [← ht]; exact hB, hS⟩ h1 h2 h3) (fun u t H1 locs1 ht _ hp hB _ _ hS => kk u.1 u.2.1 u.2.2 H1 locs1 hp ⟨by rw [← ht]; exact hB, hS⟩)
theorem xbR {post : Nat → bS → Prop} {px : String → bS → Prop} {a : Array Value} {st0 : List Value} (h : hH z v sc ar s H locs) (hr : vx_Run p l e R s m args below meth c H locs cells slots mc ms (F0 m pc ls st0) rest (qR z post a) (xX z px) (zA z))
    (kx : xK p l e R s m args below meth c (cells + mc) (slots + ms) Q z px pc ls rest)
    (kk : ∀ (r : Nat) (v' : bV) (sc' : Nat → Int32) (ar' : Nat → Nat → Int32) (H' : Heap) (locs' : List Loc), post r (v', sc', ar') → hH z v' sc' ar' s H' locs' → W p l e R s m args below meth c H' locs' (cells + mc) (slots + ms) Q (F0 m (pc + 3) ls (.ref r :: rest))) : W p l e R s m args below meth c H locs cells slots Q (F0 m pc ls st0) := by
  intro T hT X
  rcases hr T hT X with ⟨w, st₀, t, T', L, h0, X', hL, e1, e2, ⟨⟨u, ra, hv, hp, ha, hb⟩, hF⟩, st⟩ | ⟨q, st₀, t, T', L, E, ce, h0, X', hL, e1, e2, ⟨u, hp, ⟨hE, hb⟩, hF⟩, hce, hcv, hcl, st⟩
  · cases hv
    subst ha
    obtain ⟨k1, k2, k3⟩ := vx_keep h0 e1 h.2 (fun _ _ q => q) (fun _ q => q) hL hF
    obtain ⟨t2, a1, b1⟩ := kk u.1 u.2.1 u.2.2.1 u.2.2.2 T'.heap (locs ++ L) hp ⟨by rw [e1]; exact hb, k3⟩ T' rfl X'
    exact ⟨t2, st t2 a1, b1⟩
  · subst hE
    obtain ⟨k1, k2, k3⟩ := vx_keep h0 e1 h.2 (fun _ _ q => q) (fun _ q => q) hL hF
    obtain ⟨t2, a1, b1⟩ := kx u.1 ce q u.2.1 u.2.2.1 u.2.2.2 T'.heap (locs ++ L) hp ⟨by rw [e1]; exact hb, k3⟩ (by rw [e1]; exact hce) hcv hcl T' rfl X'
    exact ⟨t2, st.trans a1, b1⟩
theorem xrV {Qc : Array Value → State → Outcome → State → Prop} {px : String → bS → Prop} (C : cX z p m c cc nL s args own) (h : hH z v sc ar s H locs) (hM : vx_Met l y (Cond.code y bytes maxL ret :: uW) rm (pC z v sc ar (.ref b :: As)) Qc (xX z px) mc ms (zA z)) (hG : GoodIn uW (wsV own ix y.cls y (Cond.code y bytes maxL ret :: uW))) (hd : okN y n)
    (hrm : rm.cells = mc ∧ rm.slots = ms) (hb : ∃ cell : Cell, H[b]? = some cell ∧ cell.vm.isStatics = false ∧ s.vm.findClass y.cls = some cell.cls) (hn : As.length = n) (hl : ls.size = nL) {st0 : List Value} (hst : st0 = As.reverse ++ .ref b :: rest) (hW : (rest.map fun v => v.category).sum ≤ 8) (hdg : decode cc pc = .ok (.invokevirtual ix, 3))
    (hR : rm.frames + 1 ≤ R.frames ∧ 8 + (maxL + 11) + rm.locals ≤ R.locals) (hf : cells + mc ≤ R.cells ∧ slots + ms ≤ R.slots) : vx_Run p l e R s m args below meth c H locs cells slots mc ms (F0 m pc ls st0) rest (Qc (Value.ref b :: As).toArray) (xX z px) (zA z) :=
  vx_runV C.1 hM (cwV n C.1.2.2.2.2 hG rfl hrm.1 hrm.2 ⟨rfl, hd⟩ hR) (preV C h hb) rfl hn hl hst (lv_room (m := m) (pc := pc) (ls := ls) (rest := st0) hW) hdg hf
theorem xrS {Qc : Array Value → State → Outcome → State → Prop} {px : String → bS → Prop} (C : cX z p m c cc nL s args own) (h : hH z v sc ar s H locs) (hM : vx_Met l y (Cond.code y bytes maxL ret :: uW) rm (pC z v sc ar As) Qc (xX z px) mc ms (zA z)) (hG : GoodIn uW (va_wsS own ix y (Cond.code y bytes maxL ret :: uW))) (hd : okN y n)
    (hrm : rm.cells = mc ∧ rm.slots = ms) (hn : As.length = n) (hl : ls.size = nL) {st0 : List Value} (hst : st0 = As.reverse ++ rest) (hW : (rest.map fun v => v.category).sum ≤ 8) (hdg : decode cc pc = .ok (.invokestatic ix, 3))
    (hR : rm.frames + 1 ≤ R.frames ∧ 8 + (maxL + 11) + rm.locals ≤ R.locals) (hf : cells + mc ≤ R.cells ∧ slots + ms ≤ R.slots) : vx_Run p l e R s m args below meth c H locs cells slots mc ms (F0 m pc ls st0) rest (Qc As.toArray) (xX z px) (zA z) :=
  vx_runS C.1 hM (va_cwS n C.1.2.2.2.2 hG rfl hrm.1 hrm.2 hd hR) (preS C h) rfl hn hl hst (lv_room (m := m) (pc := pc) (ls := ls) (rest := st0) hW) hdg hf
theorem gI_I {own : String} {ix n : Nat} {y : MethodName} {b : ByteArray} {r : Option FieldType} (h5 : Cond.code y b n r ∈ uW) : GoodIn uW (Cond.code y b n r :: uW) := gI_cons h5 gI_all
theorem runI {Qc : Array Value → State → Outcome → State → Prop} (C : cX z p m c cc nL s args own) (h : hH z v sc ar s H locs) (hM : Met l y (Cond.code y bytes maxL none :: uW) rm (pC z v sc ar (.ref b :: As)) Qc mc ms (zA z)) (hG : GoodIn uW (Cond.code y bytes maxL none :: uW)) (hk : Cond.methodLink own ix y ∈ uW) (hin : Cond.instanceMethod y ∈ uW) (hini : Cond.initialized y.cls ∈ uW) (hy1 : y.name = "<init>") (hd : okN y n)
    (hrm : rm.cells = mc ∧ rm.slots = ms) (hn : As.length = n) (hl : ls.size = nL) {st0 : List Value} (hst : st0 = As.reverse ++ .ref b :: rest) (hW : (rest.map fun v => v.category).sum ≤ 8) (hdg : decode cc pc = .ok (.invokespecial ix, 3))
    (hR : rm.frames + 1 ≤ R.frames ∧ 8 + (maxL + 11) + rm.locals ≤ R.locals) (hf : cells + mc ≤ R.cells ∧ slots + ms ≤ R.slots) : va_Run p l e R s m args below meth c H locs cells slots mc ms (F0 m pc ls st0) rest (Qc (Value.ref b :: As).toArray) (zA z) :=
  va_runI C.1 hM (cwI n C.1.2.2.2.2 hG rfl hrm.1 hrm.2 (C.1.2.2.2.2 _ hini) (C.1.2.2.2.2 _ hk) (C.1.2.2.2.2 _ hin) hy1 hd hR) (preS C h) rfl hn hl hst (lv_room (m := m) (pc := pc) (ls := ls) (rest := st0) hW) hdg hf
end XCALLS
theorem rR {post : Nat → bS → Prop} {x : Nat} {n : String} {mc ms : Nat} (C : cX z p m c cc nL s args own) (hr : meth.sig.returnType = some (.object n)) (hlk : meth.locks = false) (h : hH z v sc ar s H locs) (hd : decode cc pc = .ok (.areturn, 1)) (hc : cells ≤ mc) (hs : slots ≤ ms) (hp : post x (v, sc, ar)) : W p l e R s m args below meth c H locs cells slots (MQ below (qR z post) args s mc ms (zA z)) (F0 m pc ls [.ref x]) :=
  W.widen hc hs (W.aret C.1.1 C.1.2.1 hr (Or.inl ⟨_, rfl⟩) (Or.inr ⟨x, rfl⟩) (fun t ht _ => ⟨⟨(x, v, sc, ar), x, rfl, hp, rfl, by show hI z v sc ar t.heap; rw [ht]; exact h.1⟩, h.2.F ht⟩) h.2.2.2 hd hlk)
/-- a field of a way is set -/
theorem rpF {ci k N a ix : Nat} {Cn ref : String} {T : u_T} {ty0 : Nat → FieldType} {fs : List Value} {x : Value} {ty : FieldType} (C : cX z p m c cc nL s args own) (h : hH z v sc ar s H locs) (hin : meth.name = "<init>") (ha : a ∈ v.2.2.1) (hf : v.2.2.2 a = .inr (ci, fs)) (hc : vwCl[ci]? = some (Cn, T, N)) (hk : k < N) (hi : ∀ w ∈ u_ws Cn T N, w ∈ uW) (hty : ∀ k, k < N → parseFieldDescriptor (T k).2.2.1 = some (ty0 k)) (hnm : ∀ a, a < N → ∀ b, b < N → a ≠ b → (T a).2.1 ≠ (T b).2.1) (hl : Cond.fieldLink own ix ref (T k).2.1 (T k).2.2.1 ∈ uW)
    (hsame : ∀ x, s.fieldFound? (T k).1 (T k).2.1 (T k).2.2.1 = some x → s.fieldFound? ref (T k).2.1 (T k).2.2.1 = some x) (hfin : (T k).2.2.2 = true) (hdecl : (T k).1 = own) (hdt : parseFieldDescriptor (T k).2.2.1 = some ty) (hn : narrow ty x = x) (hfit : fits ty x = true) (hlen : k < fs.length) (hd : decode cc pc = .ok (.putfield ix, 3))
    (kk : ∀ (H1 : Heap) (locs1 : List Loc), hH z (v.1, v.2.1, v.2.2.1, va_up v.2.2.2 a (.inr (ci, fs.set k x))) sc ar s H1 locs1 → W p l e R s m args below meth c H1 locs1 cells slots Q (F0 m (pc + 3) ls rest)) : W p l e R s m args below meth c H locs cells slots Q (F0 m pc ls (x :: .ref a :: rest)) := by
  obtain ⟨q, hq⟩ := va_pl_get (X := gO z v sc ar) (f := v.2.2.2) ha
  have hq0 := hq
  rw [hf] at hq
  refine va_putF (D := zD z) (ws := gW z v sc ar) C.1.1 C.1.2.1 C.1.2.2.2.2 hi ty0 hty hnm C.1.2.2.2.1 C.2.1 h.1.1 h.1.2 h.2 q hq hc k hk (C.1.2.2.2.2 _ hl) hsame hfin hin hdecl hdt hn hfit hlen hd (fun H1 locs1 hP hD hS => kk H1 locs1 ⟨⟨?_, ?_⟩, hS⟩)
  · have e := va_pl_set (e := .inr (ci, fs.set k x)) (X := gO z v sc ar) h.1.2 ha hq0
    show va_P (zD z) vwCl (gO z v sc ar ++ va_pl v.2.2.1 (va_up v.2.2.2 a (.inr (ci, fs.set k x)))) H1
    rw [← e]; exact hP
  · have e := va_pl_set (e := .inr (ci, fs.set k x)) (X := gO z v sc ar) h.1.2 ha hq0
    show va_D (zA z) (gO z v sc ar ++ va_pl v.2.2.1 (va_up v.2.2.2 a (.inr (ci, fs.set k x))))
    rw [← e]; exact hD
/-- a way is born -/
theorem rNew {ci N ix : Nat} {Cn : String} {T : u_T} {ty0 : Nat → FieldType} {fs : List Value} (C : cX z p m c cc nL s args own) (h : hH z v sc ar s H locs) (hc : vwCl[ci]? = some (Cn, T, N)) (hi : ∀ w ∈ u_ws Cn T N, w ∈ uW) (hty : ∀ k, k < N → parseFieldDescriptor (T k).2.2.1 = some (ty0 k)) (hk : Cond.classLink own ix Cn ∈ uW) (hin : Cond.instantiable Cn N ∈ uW) (hini : Cond.initialized Cn ∈ uW) (hfs : ∀ j, j < N → defaultValue (ty0 j) = vp_V fs j) (hcs : cells + 1 ≤ R.cells ∧ slots + N ≤ R.slots) (hd : decode cc pc = .ok (.new ix, 3))
    (kk : ∀ (q : Nat) (H1 : Heap), q ∉ v.2.2.1 → hH z (v.1, v.2.1, v.2.2.1 ++ [q], va_up v.2.2.2 q (.inr (ci, fs))) sc ar s H1 locs → W p l e R s m args below meth c H1 locs (cells + 1) (slots + N) Q (F0 m (pc + 3) ls (.ref q :: rest))) : W p l e R s m args below meth c H locs cells slots Q (F0 m pc ls rest) := by
  refine va_new (D := zD z) (ws := gW z v sc ar) C.1.1 C.1.2.1 C.1.2.2.2.2 hi ty0 hty C.1.2.2.2.1 (C.1.2.2.2.2 _ hk) (C.1.2.2.2.2 _ hin) (C.1.2.2.2.2 _ hini) C.2.1 h.1.1 h.1.2 h.2 C.2.2.1 hc hfs hcs.1 hcs.2 hd (fun q H1 hP hD hS => ?_)
  have hq : q ∉ v.2.2.1 := va_pl_fresh2 hD
  refine kk q H1 hq ⟨⟨?_, ?_⟩, hS⟩
  · show va_P (zD z) vwCl (gO z v sc ar ++ va_pl (v.2.2.1 ++ [q]) (va_up v.2.2.2 q (.inr (ci, fs)))) H1
    rw [← va_pl_push hq, ← List.append_assoc]; exact hP
  · show va_D (zA z) (gO z v sc ar ++ va_pl (v.2.2.1 ++ [q]) (va_up v.2.2.2 q (.inr (ci, fs))))
    rw [← va_pl_push hq, ← List.append_assoc]; exact hD
/-- a way is put into the row of ways -/
theorem rSt {ci j a : Nat} {fs : List Value} {r : vw_C} (C : cX z p m c cc nL s args own) (h : hH z v sc ar s H locs) (hj : j < 40) (ha : a ∈ v.2.2.1) (hf : v.2.2.2 a = .inr (ci, fs)) (hc : vwCl[ci]? = some r) (hca : va_Nw (.castable r.1 "BandMill$Way") s) (hd : decode cc pc = .ok (.aastore, 1))
    (kk : ∀ (H1 : Heap) (locs1 : List Loc), hH z (va_up v.1 j (some a), v.2) sc ar s H1 locs1 → W p l e R s m args below meth c H1 locs1 cells slots Q (F0 m (pc + 1) ls rest)) : W p l e R s m args below meth c H locs cells slots Q (F0 m pc ls (.ref a :: .int (nI j) :: .ref (zad z 9) :: rest)) := by
  obtain ⟨q, hq⟩ := va_pl_get (X := gO z v sc ar) (f := v.2.2.2) ha
  rw [hf] at hq
  refine va_astqO (D := zD z) (ws := gW z v sc ar) C.1.1 C.1.2.1 C.2.1 h.1.1 h.1.2 h.2 9 3 q ci rfl rfl hca hq hc (vp_in_nI hj (by decide)) hd (fun H1 locs1 hP hD hS => ?_)
  rw [nI_clamp (by omega)] at hP hD
  exact kk H1 locs1 ⟨⟨hP, hD⟩, hS⟩
/-- a way out of the row of ways -/
theorem rLd {j a : Nat} (C : cX z p m c cc nL s args own) (h : hH z v sc ar s H locs) (hj : j < 40) (ha : v.1 j = some a) (hd : decode cc pc = .ok (.aaload, 1)) (kk : W p l e R s m args below meth c H locs cells slots Q (F0 m (pc + 1) ls (.ref a :: rest))) : W p l e R s m args below meth c H locs cells slots Q (F0 m pc ls (.int (nI j) :: .ref (zad z 9) :: rest)) := by
  refine va_aldq C.1.1 C.1.2.1 C.2.1 h.1.1 9 3 rfl rfl (vp_in_nI hj (by decide)) hd ?_
  rw [nI_clamp (by omega), ha]
  exact kk
end THROWS
theorem uoI : Cond.instanceMethod Lib.objectInit ∈ uW := uW_of (by decide +kernel) rfl
theorem uoC : Cond.code Lib.objectInit ⟨#[0xb1]⟩ 1 none ∈ uW := uW_of (by decide +kernel) rfl
theorem uo_X8_3 : Cond.methodLink RX8 3 Lib.objectInit ∈ uW := uW_of (by decide +kernel) rfl
theorem uw_X8_9 : Cond.fieldLink RX8 9 "BandMill$Way" "depth" "I" ∈ uW := uW_of (by decide +kernel) rfl
set_option maxHeartbeats 4000000 in
set_option maxRecDepth 100000 in
/-- Way.<init> -/
theorem k_wi_X1 (l : Launch) (z : bZ) (v : bV) (sc : Nat → Int32) (ar : Nat → Nat → Int32) (a : Nat) (d : Int32) (ha : a ∈ v.2.2.1) (hf : v.2.2.2 a = .inr (1, [.int 0, .int 0, .int 0, .int 0, .int 0, .int 0])) : Met l yX8_init (Cond.code yX8_init cX8_init 2 none :: uW) { frames := 1, cells := 0, slots := 0, locals := 20 } (pC z v sc ar [.ref (a), .int (d)]) (qV z (fun u => u = ((v.1, v.2.1, v.2.2.1, va_up v.2.2.2 a (.inr (1, [.int d, .int 0, .int 0, .int 0, .int 0, .int 0]))), sc, ar))) 0 0 (zA z) := by
  refine eN (by decide) (Nat.le_of_ble_eq_true rfl) ?_
  intro pP eE s mM below meth cC ls C hr hlk hin h hl
  have hx := C.1.1
  have hb := C.1.2.1
  have hl : lv_has ls 2 [(0, .ref (a)), (1, .int (d))] := hl
  refine lv_aload_n hx hb dX8_init_0 rfl (lv_at hl 0 rfl) ?_
  refine W.objInit hx hb C.1.2.2.2.1 (C.1.2.2.2.2 _ uo_X8_3) (C.1.2.2.2.2 _ uoI) (C.1.2.2.2.2 _ uoC) rfl (hl.1.trans C.1.2.2.1.symm) rfl dX8_init_1 (Nat.le_of_ble_eq_true rfl) (Nat.le_of_ble_eq_true rfl) ?_
  refine lv_aload_n hx hb dX8_init_4 rfl (lv_at hl 0 rfl) ?_
  refine lv_iload_n hx hb dX8_init_5 rfl (lv_at hl 1 rfl) ?_
  refine rpF (ci := 1) (k := 0) (T := TX1) (ty0 := tyX1) (fs := [.int 0, .int 0, .int 0, .int 0, .int 0, .int 0]) (ty := .int) C h hin ha hf rfl (by decide) iX1 tyX1_ok nmX1 uw_X8_9 (fun _ q => q) rfl rfl (by decide +kernel) rfl rfl (Nat.le_of_ble_eq_true rfl) dX8_init_6 (fun H locs h => ?_)
  simp only [List.set_cons_succ, List.set_cons_zero] at h
  have h : hH z (v.1, v.2.1, v.2.2.1, va_up v.2.2.2 a (.inr (1, [.int (d), .int 0, .int 0, .int 0, .int 0, .int 0]))) sc ar s H locs := h
  have ha : a ∈ ((v.1, v.2.1, v.2.2.1, va_up v.2.2.2 a (.inr (1, [.int (d), .int 0, .int 0, .int 0, .int 0, .int 0]))) : bV).2.2.1 := ha
  have hf : ((v.1, v.2.1, v.2.2.1, va_up v.2.2.2 a (.inr (1, [.int (d), .int 0, .int 0, .int 0, .int 0, .int 0]))) : bV).2.2.2 a = .inr (1, [.int (d), .int 0, .int 0, .int 0, .int 0, .int 0]) := va_up_self _ _ _
  exact rV C hr hlk h dX8_init_9 (Nat.le_of_ble_eq_true rfl) (Nat.le_of_ble_eq_true rfl) (rfl)
set_option maxHeartbeats 4000000 in
set_option maxRecDepth 100000 in
/-- Way.<init> -/
theorem k_wi_X5 (l : Launch) (z : bZ) (v : bV) (sc : Nat → Int32) (ar : Nat → Nat → Int32) (a : Nat) (d : Int32) (ha : a ∈ v.2.2.1) (hf : v.2.2.2 a = .inr (5, [.int 0, .int 0, .null, .null])) : Met l yX8_init (Cond.code yX8_init cX8_init 2 none :: uW) { frames := 1, cells := 0, slots := 0, locals := 20 } (pC z v sc ar [.ref (a), .int (d)]) (qV z (fun u => u = ((v.1, v.2.1, v.2.2.1, va_up v.2.2.2 a (.inr (5, [.int d, .int 0, .null, .null]))), sc, ar))) 0 0 (zA z) := by
  refine eN (by decide) (Nat.le_of_ble_eq_true rfl) ?_
  intro pP eE s mM below meth cC ls C hr hlk hin h hl
  have hx := C.1.1
  have hb := C.1.2.1
  have hl : lv_has ls 2 [(0, .ref (a)), (1, .int (d))] := hl
  refine lv_aload_n hx hb dX8_init_0 rfl (lv_at hl 0 rfl) ?_
  refine W.objInit hx hb C.1.2.2.2.1 (C.1.2.2.2.2 _ uo_X8_3) (C.1.2.2.2.2 _ uoI) (C.1.2.2.2.2 _ uoC) rfl (hl.1.trans C.1.2.2.1.symm) rfl dX8_init_1 (Nat.le_of_ble_eq_true rfl) (Nat.le_of_ble_eq_true rfl) ?_
  refine lv_aload_n hx hb dX8_init_4 rfl (lv_at hl 0 rfl) ?_
  refine lv_iload_n hx hb dX8_init_5 rfl (lv_at hl 1 rfl) ?_
  refine rpF (ci := 5) (k := 0) (T := TX5) (ty0 := tyX5) (fs := [.int 0, .int 0, .null, .null]) (ty := .int) C h hin ha hf rfl (by decide) iX5 tyX5_ok nmX5 uw_X8_9 (fun _ q => q) rfl rfl (by decide +kernel) rfl rfl (Nat.le_of_ble_eq_true rfl) dX8_init_6 (fun H locs h => ?_)
  simp only [List.set_cons_succ, List.set_cons_zero] at h
  have h : hH z (v.1, v.2.1, v.2.2.1, va_up v.2.2.2 a (.inr (5, [.int (d), .int 0, .null, .null]))) sc ar s H locs := h
  have ha : a ∈ ((v.1, v.2.1, v.2.2.1, va_up v.2.2.2 a (.inr (5, [.int (d), .int 0, .null, .null]))) : bV).2.2.1 := ha
  have hf : ((v.1, v.2.1, v.2.2.1, va_up v.2.2.2 a (.inr (5, [.int (d), .int 0, .null, .null]))) : bV).2.2.2 a = .inr (5, [.int (d), .int 0, .null, .null]) := va_up_self _ _ _
  exact rV C hr hlk h dX8_init_9 (Nat.le_of_ble_eq_true rfl) (Nat.le_of_ble_eq_true rfl) (rfl)
set_option maxHeartbeats 4000000 in
set_option maxRecDepth 100000 in
/-- Way.<init> -/
theorem k_wi_X4 (l : Launch) (z : bZ) (v : bV) (sc : Nat → Int32) (ar : Nat → Nat → Int32) (a : Nat) (d : Int32) (ha : a ∈ v.2.2.1) (hf : v.2.2.2 a = .inr (4, [.int 0, .int 0, .null, .null, .null])) : Met l yX8_init (Cond.code yX8_init cX8_init 2 none :: uW) { frames := 1, cells := 0, slots := 0, locals := 20 } (pC z v sc ar [.ref (a), .int (d)]) (qV z (fun u => u = ((v.1, v.2.1, v.2.2.1, va_up v.2.2.2 a (.inr (4, [.int d, .int 0, .null, .null, .null]))), sc, ar))) 0 0 (zA z) := by
  refine eN (by decide) (Nat.le_of_ble_eq_true rfl) ?_
  intro pP eE s mM below meth cC ls C hr hlk hin h hl
  have hx := C.1.1
  have hb := C.1.2.1
  have hl : lv_has ls 2 [(0, .ref (a)), (1, .int (d))] := hl
  refine lv_aload_n hx hb dX8_init_0 rfl (lv_at hl 0 rfl) ?_
  refine W.objInit hx hb C.1.2.2.2.1 (C.1.2.2.2.2 _ uo_X8_3) (C.1.2.2.2.2 _ uoI) (C.1.2.2.2.2 _ uoC) rfl (hl.1.trans C.1.2.2.1.symm) rfl dX8_init_1 (Nat.le_of_ble_eq_true rfl) (Nat.le_of_ble_eq_true rfl) ?_
  refine lv_aload_n hx hb dX8_init_4 rfl (lv_at hl 0 rfl) ?_
  refine lv_iload_n hx hb dX8_init_5 rfl (lv_at hl 1 rfl) ?_
  refine rpF (ci := 4) (k := 0) (T := TX4) (ty0 := tyX4) (fs := [.int 0, .int 0, .null, .null, .null]) (ty := .int) C h hin ha hf rfl (by decide) iX4 tyX4_ok nmX4 uw_X8_9 (fun _ q => q) rfl rfl (by decide +kernel) rfl rfl (Nat.le_of_ble_eq_true rfl) dX8_init_6 (fun H locs h => ?_)
  simp only [List.set_cons_succ, List.set_cons_zero] at h
  have h : hH z (v.1, v.2.1, v.2.2.1, va_up v.2.2.2 a (.inr (4, [.int (d), .int 0, .null, .null, .null]))) sc ar s H locs := h
  have ha : a ∈ ((v.1, v.2.1, v.2.2.1, va_up v.2.2.2 a (.inr (4, [.int (d), .int 0, .null, .null, .null]))) : bV).2.2.1 := ha
  have hf : ((v.1, v.2.1, v.2.2.1, va_up v.2.2.2 a (.inr (4, [.int (d), .int 0, .null, .null, .null]))) : bV).2.2.2 a = .inr (4, [.int (d), .int 0, .null, .null, .null]) := va_up_self _ _ _
  exact rV C hr hlk h dX8_init_9 (Nat.le_of_ble_eq_true rfl) (Nat.le_of_ble_eq_true rfl) (rfl)
theorem gv_X1_3 : GoodIn uW (Cond.code yX8_init cX8_init 2 none :: uW) := gI_cons (uW_of (by decide +kernel) rfl) gI_all
theorem gv_X1_3_k : Cond.methodLink RX1 3 yX8_init ∈ uW := (uW_of (by decide +kernel) rfl)
theorem gv_X1_3_i : Cond.instanceMethod yX8_init ∈ uW := (uW_of (by decide +kernel) rfl)
theorem gv_X1_3_o : Cond.initialized yX8_init.cls ∈ uW := (uW_of (by decide +kernel) rfl)
theorem gv_X1_3_n : okN yX8_init 1 := by decide +kernel
set_option maxHeartbeats 4000000 in
set_option maxRecDepth 100000 in
/-- BandMill$Coding.<init> -/
theorem k_codI (l : Launch) (z : bZ) (v : bV) (sc : Nat → Int32) (ar : Nat → Nat → Int32) (a cb ch cs cd : Nat) (ha : a ∈ v.2.2.1) (hf : v.2.2.2 a = .inr (1, [.int 0, .int 0, .int 0, .int 0, .int 0, .int 0])) (hh : ch ≤ 256) : Met l yX1_init (Cond.code yX1_init cX1_init 5 none :: uW) { frames := 2, cells := 0, slots := 0, locals := 41 } (pC z v sc ar [.ref (a), .int (nI (cb)), .int (nI (ch)), .int (nI (cs)), .int (nI (cd))]) (qV z (fun u => u = ((v.1, v.2.1, v.2.2.1, va_up v.2.2.2 a (.inr (1, [.int (nI (0)), .int (nI (cb)), .int (nI (ch)), .int (nI (cs)), .int (nI (cd)), .int (nI ((256) - (ch)))]))), sc, ar))) 0 0 (zA z) := by
  refine eN (by decide) (Nat.le_of_ble_eq_true rfl) ?_
  intro pP eE s mM below meth cC ls C hr hlk hin h hl
  have hx := C.1.1
  have hb := C.1.2.1
  have hl : lv_has ls 5 [(0, .ref (a)), (1, .int (nI (cb))), (2, .int (nI (ch))), (3, .int (nI (cs))), (4, .int (nI (cd)))] := hl
  refine lv_aload_n hx hb dX1_init_0 rfl (lv_at hl 0 rfl) ?_
  refine lv_iconst (v := nI (0)) hx hb dX1_init_1 (by decide) ?_
  refine backV h (runI (As := [.int (nI (0))]) (rest := []) C h (k_wi_X1 l z v sc ar a (nI (0)) ha hf) gv_X1_3 gv_X1_3_k gv_X1_3_i gv_X1_3_o rfl gv_X1_3_n ⟨rfl, rfl⟩ rfl hl.1 rfl (Nat.le_of_ble_eq_true rfl) dX1_init_2 ⟨Nat.le_of_ble_eq_true rfl, Nat.le_of_ble_eq_true rfl⟩ ⟨Nat.le_of_ble_eq_true rfl, Nat.le_of_ble_eq_true rfl⟩) (fun v_2 sc_2 ar_2 H locs p_2 h => ?_)
  have h : hH z (v.1, v.2.1, v.2.2.1, va_up v.2.2.2 a (.inr (1, [.int (nI (0)), .int 0, .int 0, .int 0, .int 0, .int 0]))) sc ar s H locs := uEq p_2 h
  have ha : a ∈ ((v.1, v.2.1, v.2.2.1, va_up v.2.2.2 a (.inr (1, [.int (nI (0)), .int 0, .int 0, .int 0, .int 0, .int 0]))) : bV).2.2.1 := ha
  have hf : ((v.1, v.2.1, v.2.2.1, va_up v.2.2.2 a (.inr (1, [.int (nI (0)), .int 0, .int 0, .int 0, .int 0, .int 0]))) : bV).2.2.2 a = .inr (1, [.int (nI (0)), .int 0, .int 0, .int 0, .int 0, .int 0]) := va_up_self _ _ _
  refine lv_aload_n hx hb dX1_init_5 rfl (lv_at hl 0 rfl) ?_
  refine lv_iload_n hx hb dX1_init_6 rfl (lv_at hl 1 rfl) ?_
  refine rpF (ci := 1) (k := 1) (T := TX1) (ty0 := tyX1) (fs := [.int (nI (0)), .int 0, .int 0, .int 0, .int 0, .int 0]) (ty := .int) C h hin ha hf rfl (by decide) iX1 tyX1_ok nmX1 uw_X1_9 (fun _ q => q) rfl rfl (by decide +kernel) rfl rfl (Nat.le_of_ble_eq_true rfl) dX1_init_7 (fun H locs h => ?_)
  simp only [va_uu, List.set_cons_succ, List.set_cons_zero] at h
  have h : hH z (v.1, v.2.1, v.2.2.1, va_up v.2.2.2 a (.inr (1, [.int (nI (0)), .int (nI (cb)), .int 0, .int 0, .int 0, .int 0]))) sc ar s H locs := h
  have ha : a ∈ ((v.1, v.2.1, v.2.2.1, va_up v.2.2.2 a (.inr (1, [.int (nI (0)), .int (nI (cb)), .int 0, .int 0, .int 0, .int 0]))) : bV).2.2.1 := ha
  have hf : ((v.1, v.2.1, v.2.2.1, va_up v.2.2.2 a (.inr (1, [.int (nI (0)), .int (nI (cb)), .int 0, .int 0, .int 0, .int 0]))) : bV).2.2.2 a = .inr (1, [.int (nI (0)), .int (nI (cb)), .int 0, .int 0, .int 0, .int 0]) := va_up_self _ _ _
  refine lv_aload_n hx hb dX1_init_10 rfl (lv_at hl 0 rfl) ?_
  refine lv_iload_n hx hb dX1_init_11 rfl (lv_at hl 2 rfl) ?_
  refine rpF (ci := 1) (k := 2) (T := TX1) (ty0 := tyX1) (fs := [.int (nI (0)), .int (nI (cb)), .int 0, .int 0, .int 0, .int 0]) (ty := .int) C h hin ha hf rfl (by decide) iX1 tyX1_ok nmX1 uw_X1_15 (fun _ q => q) rfl rfl (by decide +kernel) rfl rfl (Nat.le_of_ble_eq_true rfl) dX1_init_12 (fun H locs h => ?_)
  simp only [va_uu, List.set_cons_succ, List.set_cons_zero] at h
  have h : hH z (v.1, v.2.1, v.2.2.1, va_up v.2.2.2 a (.inr (1, [.int (nI (0)), .int (nI (cb)), .int (nI (ch)), .int 0, .int 0, .int 0]))) sc ar s H locs := h
  have ha : a ∈ ((v.1, v.2.1, v.2.2.1, va_up v.2.2.2 a (.inr (1, [.int (nI (0)), .int (nI (cb)), .int (nI (ch)), .int 0, .int 0, .int 0]))) : bV).2.2.1 := ha
  have hf : ((v.1, v.2.1, v.2.2.1, va_up v.2.2.2 a (.inr (1, [.int (nI (0)), .int (nI (cb)), .int (nI (ch)), .int 0, .int 0, .int 0]))) : bV).2.2.2 a = .inr (1, [.int (nI (0)), .int (nI (cb)), .int (nI (ch)), .int 0, .int 0, .int 0]) := va_up_self _ _ _
  refine lv_aload_n hx hb dX1_init_15 rfl (lv_at hl 0 rfl) ?_
  refine lv_iload_n hx hb dX1_init_16 rfl (lv_at hl 3 rfl) ?_
  refine rpF (ci := 1) (k := 3) (T := TX1) (ty0 := tyX1) (fs := [.int (nI (0)), .int (nI (cb)), .int (nI (ch)), .int 0, .int 0, .int 0]) (ty := .int) C h hin ha hf rfl (by decide) iX1 tyX1_ok nmX1 uw_X1_18 (fun _ q => q) rfl rfl (by decide +kernel) rfl rfl (Nat.le_of_ble_eq_true rfl) dX1_init_17 (fun H locs h => ?_)
  simp only [va_uu, List.set_cons_succ, List.set_cons_zero] at h
  have h : hH z (v.1, v.2.1, v.2.2.1, va_up v.2.2.2 a (.inr (1, [.int (nI (0)), .int (nI (cb)), .int (nI (ch)), .int (nI (cs)), .int 0, .int 0]))) sc ar s H locs := h
  have ha : a ∈ ((v.1, v.2.1, v.2.2.1, va_up v.2.2.2 a (.inr (1, [.int (nI (0)), .int (nI (cb)), .int (nI (ch)), .int (nI (cs)), .int 0, .int 0]))) : bV).2.2.1 := ha
  have hf : ((v.1, v.2.1, v.2.2.1, va_up v.2.2.2 a (.inr (1, [.int (nI (0)), .int (nI (cb)), .int (nI (ch)), .int (nI (cs)), .int 0, .int 0]))) : bV).2.2.2 a = .inr (1, [.int (nI (0)), .int (nI (cb)), .int (nI (ch)), .int (nI (cs)), .int 0, .int 0]) := va_up_self _ _ _
  refine lv_aload_n hx hb dX1_init_20 rfl (lv_at hl 0 rfl) ?_
  refine lv_iload hx hb dX1_init_21 (lv_at hl 4 rfl) ?_
  refine rpF (ci := 1) (k := 4) (T := TX1) (ty0 := tyX1) (fs := [.int (nI (0)), .int (nI (cb)), .int (nI (ch)), .int (nI (cs)), .int 0, .int 0]) (ty := .int) C h hin ha hf rfl (by decide) iX1 tyX1_ok nmX1 uw_X1_21 (fun _ q => q) rfl rfl (by decide +kernel) rfl rfl (Nat.le_of_ble_eq_true rfl) dX1_init_23 (fun H locs h => ?_)
  simp only [va_uu, List.set_cons_succ, List.set_cons_zero] at h
  have h : hH z (v.1, v.2.1, v.2.2.1, va_up v.2.2.2 a (.inr (1, [.int (nI (0)), .int (nI (cb)), .int (nI (ch)), .int (nI (cs)), .int (nI (cd)), .int 0]))) sc ar s H locs := h
  have ha : a ∈ ((v.1, v.2.1, v.2.2.1, va_up v.2.2.2 a (.inr (1, [.int (nI (0)), .int (nI (cb)), .int (nI (ch)), .int (nI (cs)), .int (nI (cd)), .int 0]))) : bV).2.2.1 := ha
  have hf : ((v.1, v.2.1, v.2.2.1, va_up v.2.2.2 a (.inr (1, [.int (nI (0)), .int (nI (cb)), .int (nI (ch)), .int (nI (cs)), .int (nI (cd)), .int 0]))) : bV).2.2.2 a = .inr (1, [.int (nI (0)), .int (nI (cb)), .int (nI (ch)), .int (nI (cs)), .int (nI (cd)), .int 0]) := va_up_self _ _ _
  refine lv_aload_n hx hb dX1_init_26 rfl (lv_at hl 0 rfl) ?_
  refine lv_sipush (v := nI (256)) hx hb dX1_init_27 (by decide) ?_
  refine lv_iload_n hx hb dX1_init_30 rfl (lv_at hl 2 rfl) ?_
  refine lv_isub hx hb dX1_init_31 ?_
  refine tI (pk_sub (by omega)) ?_
  refine rpF (ci := 1) (k := 5) (T := TX1) (ty0 := tyX1) (fs := [.int (nI (0)), .int (nI (cb)), .int (nI (ch)), .int (nI (cs)), .int (nI (cd)), .int 0]) (ty := .int) C h hin ha hf rfl (by decide) iX1 tyX1_ok nmX1 uw_X1_24 (fun _ q => q) rfl rfl (by decide +kernel) rfl rfl (Nat.le_of_ble_eq_true rfl) dX1_init_32 (fun H locs h => ?_)
  simp only [va_uu, List.set_cons_succ, List.set_cons_zero] at h
  have h : hH z (v.1, v.2.1, v.2.2.1, va_up v.2.2.2 a (.inr (1, [.int (nI (0)), .int (nI (cb)), .int (nI (ch)), .int (nI (cs)), .int (nI (cd)), .int (nI ((256) - (ch)))]))) sc ar s H locs := h
  have ha : a ∈ ((v.1, v.2.1, v.2.2.1, va_up v.2.2.2 a (.inr (1, [.int (nI (0)), .int (nI (cb)), .int (nI (ch)), .int (nI (cs)), .int (nI (cd)), .int (nI ((256) - (ch)))]))) : bV).2.2.1 := ha
  have hf : ((v.1, v.2.1, v.2.2.1, va_up v.2.2.2 a (.inr (1, [.int (nI (0)), .int (nI (cb)), .int (nI (ch)), .int (nI (cs)), .int (nI (cd)), .int (nI ((256) - (ch)))]))) : bV).2.2.2 a = .inr (1, [.int (nI (0)), .int (nI (cb)), .int (nI (ch)), .int (nI (cs)), .int (nI (cd)), .int (nI ((256) - (ch)))]) := va_up_self _ _ _
  exact rV C hr hlk h dX1_init_35 (Nat.le_of_ble_eq_true rfl) (Nat.le_of_ble_eq_true rfl) (rfl)
theorem gv_X5_1 : GoodIn uW (Cond.code yX8_init cX8_init 2 none :: uW) := gI_cons (uW_of (by decide +kernel) rfl) gI_all
theorem gv_X5_1_k : Cond.methodLink RX5 1 yX8_init ∈ uW := (uW_of (by decide +kernel) rfl)
theorem gv_X5_1_i : Cond.instanceMethod yX8_init ∈ uW := (uW_of (by decide +kernel) rfl)
theorem gv_X5_1_o : Cond.initialized yX8_init.cls ∈ uW := (uW_of (by decide +kernel) rfl)
theorem gv_X5_1_n : okN yX8_init 1 := by decide +kernel
set_option maxHeartbeats 4000000 in
set_option maxRecDepth 100000 in
/-- BandMill$Run.<init> -/
theorem k_runI (l : Launch) (z : bZ) (v : bV) (sc : Nat → Int32) (ar : Nat → Nat → Int32) (a d n a1 a2 : Nat) (ha : a ∈ v.2.2.1) (hf : v.2.2.2 a = .inr (5, [.int 0, .int 0, .null, .null])) : Met l yX5_init (Cond.code yX5_init cX5_init 5 none :: uW) { frames := 2, cells := 0, slots := 0, locals := 41 } (pC z v sc ar [.ref (a), .int (nI (d)), .int (nI (n)), .ref (a1), .ref (a2)]) (qV z (fun u => u = ((v.1, v.2.1, v.2.2.1, va_up v.2.2.2 a (.inr (5, [.int (nI (d)), .int (nI (n)), .ref (a1), .ref (a2)]))), sc, ar))) 0 0 (zA z) := by
  refine eN (by decide) (Nat.le_of_ble_eq_true rfl) ?_
  intro pP eE s mM below meth cC ls C hr hlk hin h hl
  have hx := C.1.1
  have hb := C.1.2.1
  have hl : lv_has ls 5 [(0, .ref (a)), (1, .int (nI (d))), (2, .int (nI (n))), (3, .ref (a1)), (4, .ref (a2))] := hl
  refine lv_aload_n hx hb dX5_init_0 rfl (lv_at hl 0 rfl) ?_
  refine lv_iload_n hx hb dX5_init_1 rfl (lv_at hl 1 rfl) ?_
  refine backV h (runI (As := [.int (nI (d))]) (rest := []) C h (k_wi_X5 l z v sc ar a (nI (d)) ha hf) gv_X5_1 gv_X5_1_k gv_X5_1_i gv_X5_1_o rfl gv_X5_1_n ⟨rfl, rfl⟩ rfl hl.1 rfl (Nat.le_of_ble_eq_true rfl) dX5_init_2 ⟨Nat.le_of_ble_eq_true rfl, Nat.le_of_ble_eq_true rfl⟩ ⟨Nat.le_of_ble_eq_true rfl, Nat.le_of_ble_eq_true rfl⟩) (fun v_2 sc_2 ar_2 H locs p_2 h => ?_)
  have h : hH z (v.1, v.2.1, v.2.2.1, va_up v.2.2.2 a (.inr (5, [.int (nI (d)), .int 0, .null, .null]))) sc ar s H locs := uEq p_2 h
  have ha : a ∈ ((v.1, v.2.1, v.2.2.1, va_up v.2.2.2 a (.inr (5, [.int (nI (d)), .int 0, .null, .null]))) : bV).2.2.1 := ha
  have hf : ((v.1, v.2.1, v.2.2.1, va_up v.2.2.2 a (.inr (5, [.int (nI (d)), .int 0, .null, .null]))) : bV).2.2.2 a = .inr (5, [.int (nI (d)), .int 0, .null, .null]) := va_up_self _ _ _
  refine lv_aload_n hx hb dX5_init_5 rfl (lv_at hl 0 rfl) ?_
  refine lv_iload_n hx hb dX5_init_6 rfl (lv_at hl 2 rfl) ?_
  refine rpF (ci := 5) (k := 1) (T := TX5) (ty0 := tyX5) (fs := [.int (nI (d)), .int 0, .null, .null]) (ty := .int) C h hin ha hf rfl (by decide) iX5 tyX5_ok nmX5 uw_X5_7 (fun _ q => q) rfl rfl (by decide +kernel) rfl rfl (Nat.le_of_ble_eq_true rfl) dX5_init_7 (fun H locs h => ?_)
  simp only [va_uu, List.set_cons_succ, List.set_cons_zero] at h
  have h : hH z (v.1, v.2.1, v.2.2.1, va_up v.2.2.2 a (.inr (5, [.int (nI (d)), .int (nI (n)), .null, .null]))) sc ar s H locs := h
  have ha : a ∈ ((v.1, v.2.1, v.2.2.1, va_up v.2.2.2 a (.inr (5, [.int (nI (d)), .int (nI (n)), .null, .null]))) : bV).2.2.1 := ha
  have hf : ((v.1, v.2.1, v.2.2.1, va_up v.2.2.2 a (.inr (5, [.int (nI (d)), .int (nI (n)), .null, .null]))) : bV).2.2.2 a = .inr (5, [.int (nI (d)), .int (nI (n)), .null, .null]) := va_up_self _ _ _
  refine lv_aload_n hx hb dX5_init_10 rfl (lv_at hl 0 rfl) ?_
  refine lv_aload_n hx hb dX5_init_11 rfl (lv_at hl 3 rfl) ?_
  refine rpF (ci := 5) (k := 2) (T := TX5) (ty0 := tyX5) (fs := [.int (nI (d)), .int (nI (n)), .null, .null]) (ty := .object "BandMill$Way") C h hin ha hf rfl (by decide) iX5 tyX5_ok nmX5 uw_X5_13 (fun _ q => q) rfl rfl (by decide +kernel) rfl rfl (Nat.le_of_ble_eq_true rfl) dX5_init_12 (fun H locs h => ?_)
  simp only [va_uu, List.set_cons_succ, List.set_cons_zero] at h
  have h : hH z (v.1, v.2.1, v.2.2.1, va_up v.2.2.2 a (.inr (5, [.int (nI (d)), .int (nI (n)), .ref (a1), .null]))) sc ar s H locs := h
  have ha : a ∈ ((v.1, v.2.1, v.2.2.1, va_up v.2.2.2 a (.inr (5, [.int (nI (d)), .int (nI (n)), .ref (a1), .null]))) : bV).2.2.1 := ha
  have hf : ((v.1, v.2.1, v.2.2.1, va_up v.2.2.2 a (.inr (5, [.int (nI (d)), .int (nI (n)), .ref (a1), .null]))) : bV).2.2.2 a = .inr (5, [.int (nI (d)), .int (nI (n)), .ref (a1), .null]) := va_up_self _ _ _
  refine lv_aload_n hx hb dX5_init_15 rfl (lv_at hl 0 rfl) ?_
  refine lv_aload hx hb dX5_init_16 (lv_at hl 4 rfl) ?_
  refine rpF (ci := 5) (k := 3) (T := TX5) (ty0 := tyX5) (fs := [.int (nI (d)), .int (nI (n)), .ref (a1), .null]) (ty := .object "BandMill$Way") C h hin ha hf rfl (by decide) iX5 tyX5_ok nmX5 uw_X5_17 (fun _ q => q) rfl rfl (by decide +kernel) rfl rfl (Nat.le_of_ble_eq_true rfl) dX5_init_18 (fun H locs h => ?_)
  simp only [va_uu, List.set_cons_succ, List.set_cons_zero] at h
  have h : hH z (v.1, v.2.1, v.2.2.1, va_up v.2.2.2 a (.inr (5, [.int (nI (d)), .int (nI (n)), .ref (a1), .ref (a2)]))) sc ar s H locs := h
  have ha : a ∈ ((v.1, v.2.1, v.2.2.1, va_up v.2.2.2 a (.inr (5, [.int (nI (d)), .int (nI (n)), .ref (a1), .ref (a2)]))) : bV).2.2.1 := ha
  have hf : ((v.1, v.2.1, v.2.2.1, va_up v.2.2.2 a (.inr (5, [.int (nI (d)), .int (nI (n)), .ref (a1), .ref (a2)]))) : bV).2.2.2 a = .inr (5, [.int (nI (d)), .int (nI (n)), .ref (a1), .ref (a2)]) := va_up_self _ _ _
  exact rV C hr hlk h dX5_init_21 (Nat.le_of_ble_eq_true rfl) (Nat.le_of_ble_eq_true rfl) (rfl)
theorem gv_X4_3 : GoodIn uW (Cond.code yX8_init cX8_init 2 none :: uW) := gI_cons (uW_of (by decide +kernel) rfl) gI_all
theorem gv_X4_3_k : Cond.methodLink RX4 3 yX8_init ∈ uW := (uW_of (by decide +kernel) rfl)
theorem gv_X4_3_i : Cond.instanceMethod yX8_init ∈ uW := (uW_of (by decide +kernel) rfl)
theorem gv_X4_3_o : Cond.initialized yX8_init.cls ∈ uW := (uW_of (by decide +kernel) rfl)
theorem gv_X4_3_n : okN yX8_init 1 := by decide +kernel
set_option maxHeartbeats 4000000 in
set_option maxRecDepth 100000 in
/-- BandMill$Popular.<init> -/
theorem k_popI (l : Launch) (z : bZ) (v : bV) (sc : Nat → Int32) (ar : Nat → Nat → Int32) (a d n a1 a2 a3 : Nat) (ha : a ∈ v.2.2.1) (hf : v.2.2.2 a = .inr (4, [.int 0, .int 0, .null, .null, .null])) : Met l yX4_init (Cond.code yX4_init cX4_init 6 none :: uW) { frames := 2, cells := 0, slots := 0, locals := 41 } (pC z v sc ar [.ref (a), .int (nI (d)), .int (nI (n)), .ref (a1), .ref (a2), .ref (a3)]) (qV z (fun u => u = ((v.1, v.2.1, v.2.2.1, va_up v.2.2.2 a (.inr (4, [.int (nI (d)), .int (nI (n)), .ref (a1), .ref (a2), .ref (a3)]))), sc, ar))) 0 0 (zA z) := by
  refine eN (by decide) (Nat.le_of_ble_eq_true rfl) ?_
  intro pP eE s mM below meth cC ls C hr hlk hin h hl
  have hx := C.1.1
  have hb := C.1.2.1
  have hl : lv_has ls 6 [(0, .ref (a)), (1, .int (nI (d))), (2, .int (nI (n))), (3, .ref (a1)), (4, .ref (a2)), (5, .ref (a3))] := hl
  refine lv_aload_n hx hb dX4_init_0 rfl (lv_at hl 0 rfl) ?_
  refine lv_iload_n hx hb dX4_init_1 rfl (lv_at hl 1 rfl) ?_
  refine backV h (runI (As := [.int (nI (d))]) (rest := []) C h (k_wi_X4 l z v sc ar a (nI (d)) ha hf) gv_X4_3 gv_X4_3_k gv_X4_3_i gv_X4_3_o rfl gv_X4_3_n ⟨rfl, rfl⟩ rfl hl.1 rfl (Nat.le_of_ble_eq_true rfl) dX4_init_2 ⟨Nat.le_of_ble_eq_true rfl, Nat.le_of_ble_eq_true rfl⟩ ⟨Nat.le_of_ble_eq_true rfl, Nat.le_of_ble_eq_true rfl⟩) (fun v_2 sc_2 ar_2 H locs p_2 h => ?_)
  have h : hH z (v.1, v.2.1, v.2.2.1, va_up v.2.2.2 a (.inr (4, [.int (nI (d)), .int 0, .null, .null, .null]))) sc ar s H locs := uEq p_2 h
  have ha : a ∈ ((v.1, v.2.1, v.2.2.1, va_up v.2.2.2 a (.inr (4, [.int (nI (d)), .int 0, .null, .null, .null]))) : bV).2.2.1 := ha
  have hf : ((v.1, v.2.1, v.2.2.1, va_up v.2.2.2 a (.inr (4, [.int (nI (d)), .int 0, .null, .null, .null]))) : bV).2.2.2 a = .inr (4, [.int (nI (d)), .int 0, .null, .null, .null]) := va_up_self _ _ _
  refine lv_aload_n hx hb dX4_init_5 rfl (lv_at hl 0 rfl) ?_
  refine lv_iload_n hx hb dX4_init_6 rfl (lv_at hl 2 rfl) ?_
  refine rpF (ci := 4) (k := 1) (T := TX4) (ty0 := tyX4) (fs := [.int (nI (d)), .int 0, .null, .null, .null]) (ty := .int) C h hin ha hf rfl (by decide) iX4 tyX4_ok nmX4 uw_X4_9 (fun _ q => q) rfl rfl (by decide +kernel) rfl rfl (Nat.le_of_ble_eq_true rfl) dX4_init_7 (fun H locs h => ?_)
  simp only [va_uu, List.set_cons_succ, List.set_cons_zero] at h
  have h : hH z (v.1, v.2.1, v.2.2.1, va_up v.2.2.2 a (.inr (4, [.int (nI (d)), .int (nI (n)), .null, .null, .null]))) sc ar s H locs := h
  have ha : a ∈ ((v.1, v.2.1, v.2.2.1, va_up v.2.2.2 a (.inr (4, [.int (nI (d)), .int (nI (n)), .null, .null, .null]))) : bV).2.2.1 := ha
  have hf : ((v.1, v.2.1, v.2.2.1, va_up v.2.2.2 a (.inr (4, [.int (nI (d)), .int (nI (n)), .null, .null, .null]))) : bV).2.2.2 a = .inr (4, [.int (nI (d)), .int (nI (n)), .null, .null, .null]) := va_up_self _ _ _
  refine lv_aload_n hx hb dX4_init_10 rfl (lv_at hl 0 rfl) ?_
  refine lv_aload_n hx hb dX4_init_11 rfl (lv_at hl 3 rfl) ?_
  refine rpF (ci := 4) (k := 2) (T := TX4) (ty0 := tyX4) (fs := [.int (nI (d)), .int (nI (n)), .null, .null, .null]) (ty := .object "BandMill$Way") C h hin ha hf rfl (by decide) iX4 tyX4_ok nmX4 uw_X4_15 (fun _ q => q) rfl rfl (by decide +kernel) rfl rfl (Nat.le_of_ble_eq_true rfl) dX4_init_12 (fun H locs h => ?_)
  simp only [va_uu, List.set_cons_succ, List.set_cons_zero] at h
  have h : hH z (v.1, v.2.1, v.2.2.1, va_up v.2.2.2 a (.inr (4, [.int (nI (d)), .int (nI (n)), .ref (a1), .null, .null]))) sc ar s H locs := h
  have ha : a ∈ ((v.1, v.2.1, v.2.2.1, va_up v.2.2.2 a (.inr (4, [.int (nI (d)), .int (nI (n)), .ref (a1), .null, .null]))) : bV).2.2.1 := ha
  have hf : ((v.1, v.2.1, v.2.2.1, va_up v.2.2.2 a (.inr (4, [.int (nI (d)), .int (nI (n)), .ref (a1), .null, .null]))) : bV).2.2.2 a = .inr (4, [.int (nI (d)), .int (nI (n)), .ref (a1), .null, .null]) := va_up_self _ _ _
  refine lv_aload_n hx hb dX4_init_15 rfl (lv_at hl 0 rfl) ?_
  refine lv_aload hx hb dX4_init_16 (lv_at hl 4 rfl) ?_
  refine rpF (ci := 4) (k := 3) (T := TX4) (ty0 := tyX4) (fs := [.int (nI (d)), .int (nI (n)), .ref (a1), .null, .null]) (ty := .object "BandMill$Way") C h hin ha hf rfl (by decide) iX4 tyX4_ok nmX4 uw_X4_19 (fun _ q => q) rfl rfl (by decide +kernel) rfl rfl (Nat.le_of_ble_eq_true rfl) dX4_init_18 (fun H locs h => ?_)
  simp only [va_uu, List.set_cons_succ, List.set_cons_zero] at h
  have h : hH z (v.1, v.2.1, v.2.2.1, va_up v.2.2.2 a (.inr (4, [.int (nI (d)), .int (nI (n)), .ref (a1), .ref (a2), .null]))) sc ar s H locs := h
  have ha : a ∈ ((v.1, v.2.1, v.2.2.1, va_up v.2.2.2 a (.inr (4, [.int (nI (d)), .int (nI (n)), .ref (a1), .ref (a2), .null]))) : bV).2.2.1 := ha
  have hf : ((v.1, v.2.1, v.2.2.1, va_up v.2.2.2 a (.inr (4, [.int (nI (d)), .int (nI (n)), .ref (a1), .ref (a2), .null]))) : bV).2.2.2 a = .inr (4, [.int (nI (d)), .int (nI (n)), .ref (a1), .ref (a2), .null]) := va_up_self _ _ _
  refine lv_aload_n hx hb dX4_init_21 rfl (lv_at hl 0 rfl) ?_
  refine lv_aload hx hb dX4_init_22 (lv_at hl 5 rfl) ?_
  refine rpF (ci := 4) (k := 4) (T := TX4) (ty0 := tyX4) (fs := [.int (nI (d)), .int (nI (n)), .ref (a1), .ref (a2), .null]) (ty := .object "BandMill$Way") C h hin ha hf rfl (by decide) iX4 tyX4_ok nmX4 uw_X4_22 (fun _ q => q) rfl rfl (by decide +kernel) rfl rfl (Nat.le_of_ble_eq_true rfl) dX4_init_24 (fun H locs h => ?_)
  simp only [va_uu, List.set_cons_succ, List.set_cons_zero] at h
  have h : hH z (v.1, v.2.1, v.2.2.1, va_up v.2.2.2 a (.inr (4, [.int (nI (d)), .int (nI (n)), .ref (a1), .ref (a2), .ref (a3)]))) sc ar s H locs := h
  have ha : a ∈ ((v.1, v.2.1, v.2.2.1, va_up v.2.2.2 a (.inr (4, [.int (nI (d)), .int (nI (n)), .ref (a1), .ref (a2), .ref (a3)]))) : bV).2.2.1 := ha
  have hf : ((v.1, v.2.1, v.2.2.1, va_up v.2.2.2 a (.inr (4, [.int (nI (d)), .int (nI (n)), .ref (a1), .ref (a2), .ref (a3)]))) : bV).2.2.2 a = .inr (4, [.int (nI (d)), .int (nI (n)), .ref (a1), .ref (a2), .ref (a3)]) := va_up_self _ _ _
  exact rV C hr hlk h dX4_init_27 (Nat.le_of_ble_eq_true rfl) (Nat.le_of_ble_eq_true rfl) (rfl)
