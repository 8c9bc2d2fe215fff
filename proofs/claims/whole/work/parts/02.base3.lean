def strL : List (Nat × String) := [(153, "chosen tells 0 .. 2"), (178, "about tells 0 .. 3"), (180, "a number is not as it may be"), (182, "there are 40 ways"), (184, "the way would be too deep"), (186, "the tape would be too long"), (88, "the row is full")]
def xIA : String := "java/lang/IllegalArgumentException"
def xIS : String := "java/lang/IllegalStateException"
/-- what holds of the machine around at every call -/
def EV (z : bZ) (U : State) : Prop := va_K (zD z) vwCl (zT z) U ∧ (∀ q, U.heap.size ≤ q → zA z q) ∧ (∀ w ∈ nwF, va_Nw w U) ∧ (∀ w ∈ nwM, va_Nw w U) ∧ (va_Nc RX4 RX1 U ∧ va_Nc RX5 RX1 U ∧ va_Nc xIS xIA U) ∧ (vx_Zq Bundle.tN "UNASSIGNED_STACK" Bundle.steD (zA z) U U.heap ∧ vx_Zq Bundle.tN "SUPPRESSED_SENTINEL" Bundle.listD (zA z) U U.heap) ∧ (∀ q ∈ strL, ∃ a, vk_R RX9 q.1 q.2 a U) ∧ (∀ w ∈ nwD, va_Nw w U) ∧ (∀ w ∈ nwC, va_Nw w U) ∧ va_AO "BandMill$Way" U ∧ va_AO "BandMill$Frame" U
theorem EV.frame {z : bZ} {U : State} {g : JFrame} {mk : MethodId} {a : Array Value} (h : EV z U) : EV z (U.calling g mk a) := by
  obtain ⟨h1, h2, h3, h4, ⟨h5, h6, h6b⟩, ⟨h7, h8⟩, h9, h10, h11, h12, h13⟩ := h
  have hv : U.vm = (U.calling g mk a).vm := rfl
  have ha : U.vm.Alike (U.calling g mk a).vm := Vm.Alike.refl U.vm
  refine ⟨va_K.moved ha h1, h2, fun w hw => va_Nw.same (nwF_tab w hw) hv (h3 w hw), fun w hw => va_Nw.same (nwM_tab w hw) hv (h4 w hw), ⟨h5.moved ha, h6.moved ha, h6b.moved ha⟩, ⟨h7.moved ha, h8.moved ha⟩, fun q hq => ?_, fun w hw => va_Nw.same (nwD_tab w hw) hv (h10 w hw), fun w hw => va_Nw.same (nwC_tab w hw) hv (h11 w hw), h12.moved ha, h13.moved ha⟩
  obtain ⟨x, hx⟩ := h9 q hq
  exact ⟨x, vk_R.same hv.symm hx⟩
theorem EV.call {z : bZ} {s U : State} {H : Heap} {locs : List Loc} (h : EV z s) (hS : va_S (zA z) s.heap H locs) (hU : U.heap = H) (hW : s.WarmedH U.vm) : EV z U := by
  obtain ⟨h1, h2, h3, h4, ⟨h5, h6, h6b⟩, ⟨h7, h8⟩, h9, h10, h11, h12, h13⟩ := h
  refine ⟨va_K.moved hW.alike h1, fun q hq => h2 q (by rw [hU] at hq; exact Nat.le_trans hS.1 hq), nwF_warm hW h3, nwM_warm hW h4, ⟨h5.moved hW.alike, h6.moved hW.alike, h6b.moved hW.alike⟩, ⟨?_, ?_⟩, fun q hq => ?_, nwD_warm hW h10, nwC_warm hW h11, h12.moved hW.alike, h13.moved hW.alike⟩
  · rw [hU]; exact (h7.kept hS.2.1).moved hW.alike
  · rw [hU]; exact (h8.kept hS.2.1).moved hW.alike
  · obtain ⟨x, hx⟩ := h9 q hq
    exact ⟨x, vk_R.warm hW hx⟩
/-- the heap holds the world -/
def hI (z : bZ) (v : bV) (sc : Nat → Int32) (ar : Nat → Nat → Int32) (H : Heap) : Prop := va_P (zD z) vwCl (gW z v sc ar) H ∧ va_D (zA z) (gW z v sc ar)
/-- .. and since the method's start nothing but what it may has changed -/
def hH (z : bZ) (v : bV) (sc : Nat → Int32) (ar : Nat → Nat → Int32) (s : State) (H : Heap) (locs : List Loc) : Prop := hI z v sc ar H ∧ va_S (zA z) s.heap H locs
abbrev pC (z : bZ) (v : bV) (sc : Nat → Int32) (ar : Nat → Nat → Int32) (av : List Value) : Array Value → State → Prop := va_Pc av (fun U => EV z U ∧ hI z v sc ar U.heap)
abbrev bB (z : bZ) (u : bS) (t : State) : Prop := hI z u.1 u.2.1 u.2.2 t.heap
abbrev qI (z : bZ) (post : Int32 → bS → Prop) : Array Value → State → Outcome → State → Prop := va_Qi post (bB z) (zA z)
abbrev qL (z : bZ) (post : Int64 → bS → Prop) : Array Value → State → Outcome → State → Prop := va_Ql post (bB z) (zA z)
abbrev qV (z : bZ) (post : bS → Prop) : Array Value → State → Outcome → State → Prop := va_Qv post (bB z) (zA z)
theorem pC_blind {z : bZ} {v : bV} {sc : Nat → Int32} {ar : Nat → Nat → Int32} {av : List Value} : FrameBlind (pC z v sc ar av) := fun _ _ _ _ h => ⟨h.1, h.2.1.frame, h.2.2⟩
abbrev cX (z : bZ) (p : Program) (m : MethodId) (c : Code) (cc : ByteArray) (nL : Nat) (s : State) (args : Array Value) (own : String) : Prop := CallFix p m c cc nL s args uW own ∧ EV z s
section BASE
variable {p : Program} {l : Launch} {e : Env} {R : Room} {s : State} {m : MethodId} {args : Array Value} {below : List Frame} {meth : Method} {c : Code} {H : Heap} {locs : List Loc} {cells slots : Nat} {Q : State → Prop}
variable {z : bZ} {v : bV} {sc : Nat → Int32} {ar : Nat → Nat → Int32} {cc : ByteArray} {nL : Nat} {own : String} {pc : Nat} {ls : Array Slot} {rest : List Value}
/-- a method's contract out of its walk -/
theorem eM {y : MethodName} {ret : Option FieldType} {rm : Room} {av : List Value} {Qc : Array Value → State → Outcome → State → Prop} {mc ms : Nat} (hy : plainName y.cls = true) (hav : (lg_sl av).length ≤ nL)
    (body : ∀ (p : Program) (e : Env) (s : State) (m : MethodId) (below : List Frame) (meth : Method) (c : Code) (ls : Array Slot), cX z p m c cc nL s av.toArray y.cls → meth.sig.returnType = ret → meth.locks = false → hH z v sc ar s s.heap [] → lv_has ls nL (lv_args 0 av) →
      W p l e rm s m av.toArray below meth c s.heap [] 0 0 (MQ below Qc av.toArray s mc ms (zA z)) (F0 m 0 ls [])) : Met l y (Cond.code y cc nL ret :: uW) rm (pC z v sc ar av) Qc mc ms (zA z) := by
  refine Met.ofW (cc := cc) (maxL := nL) (ret := ret) hy rfl ?_
  intro p e s m args below meth c s₁ B hml hv
  obtain ⟨rfl, hE, hh⟩ := hv
  have hts := atoms_spec (ws := Cond.code y cc nL ret :: uW) B.pre
  have hl := lv_entry av (n := nL) hav
  rw [lg_entry_eq]
  exact body p e s m below meth c _ ⟨⟨B.exec, B.bytes, hml, findClass_of_methodNamed B.named, fun w hw => hts w (List.mem_cons_of_mem _ hw)⟩, hE⟩ B.returns B.notSynchronized ⟨hh, va_S.rf⟩ hl
/-- a number on the stack, in other words -/
theorem tI {x y : Int32} (h : x = y) (k : W p l e R s m args below meth c H locs cells slots Q (F0 m pc ls (.int y :: rest))) : W p l e R s m args below meth c H locs cells slots Q (F0 m pc ls (.int x :: rest)) := h ▸ k
theorem tL {x y : Int64} (h : x = y) (k : W p l e R s m args below meth c H locs cells slots Q (F0 m pc ls (.long y :: rest))) : W p l e R s m args below meth c H locs cells slots Q (F0 m pc ls (.long x :: rest)) := h ▸ k
theorem rI {post : Int32 → bS → Prop} {x : Int32} {mc ms : Nat} (C : cX z p m c cc nL s args own) (hr : meth.sig.returnType = some .int) (hlk : meth.locks = false) (h : hH z v sc ar s H locs) (hd : decode cc pc = .ok (.ireturn, 1)) (hc : cells ≤ mc) (hs : slots ≤ ms) (hp : post x (v, sc, ar)) : W p l e R s m args below meth c H locs cells slots (MQ below (qI z post) args s mc ms (zA z)) (F0 m pc ls [.int x]) :=
  W.widen hc hs (W.iret C.1.1 C.1.2.1 hr (fun t ht _ => ⟨⟨x, (v, sc, ar), rfl, hp, by show hI z v sc ar t.heap; rw [ht]; exact h.1⟩, h.2.F ht⟩) h.2.2.2 hd hlk)
theorem rZ {post : Int32 → bS → Prop} {x : Int32} {mc ms : Nat} (C : cX z p m c cc nL s args own) (hr : meth.sig.returnType = some .boolean) (hlk : meth.locks = false) (h : hH z v sc ar s H locs) (hd : decode cc pc = .ok (.ireturn, 1)) (hn : narrow .boolean (.int x) = .int x) (hc : cells ≤ mc) (hs : slots ≤ ms) (hp : post x (v, sc, ar)) : W p l e R s m args below meth c H locs cells slots (MQ below (qI z post) args s mc ms (zA z)) (F0 m pc ls [.int x]) :=
  W.widen hc hs (W.zret C.1.1 C.1.2.1 hr hn (fun t ht _ => ⟨⟨x, (v, sc, ar), rfl, hp, by show hI z v sc ar t.heap; rw [ht]; exact h.1⟩, h.2.F ht⟩) h.2.2.2 hd hlk)
theorem rL {post : Int64 → bS → Prop} {x : Int64} {mc ms : Nat} (C : cX z p m c cc nL s args own) (hr : meth.sig.returnType = some .long) (hlk : meth.locks = false) (h : hH z v sc ar s H locs) (hd : decode cc pc = .ok (.lreturn, 1)) (hc : cells ≤ mc) (hs : slots ≤ ms) (hp : post x (v, sc, ar)) : W p l e R s m args below meth c H locs cells slots (MQ below (qL z post) args s mc ms (zA z)) (F0 m pc ls [.long x]) :=
  W.widen hc hs (W.lret C.1.1 C.1.2.1 hr (fun t ht _ => ⟨⟨x, (v, sc, ar), rfl, hp, by show hI z v sc ar t.heap; rw [ht]; exact h.1⟩, h.2.F ht⟩) h.2.2.2 hd hlk)
theorem rV {post : bS → Prop} {mc ms : Nat} (C : cX z p m c cc nL s args own) (hr : meth.sig.returnType = none) (hlk : meth.locks = false) (h : hH z v sc ar s H locs) (hd : decode cc pc = .ok (.return_, 1)) (hc : cells ≤ mc) (hs : slots ≤ ms) (hp : post (v, sc, ar)) : W p l e R s m args below meth c H locs cells slots (MQ below (qV z post) args s mc ms (zA z)) (F0 m pc ls []) :=
  W.widen hc hs (W.vret C.1.1 C.1.2.1 hr (fun t ht _ => ⟨⟨(v, sc, ar), rfl, hp, by show hI z v sc ar t.heap; rw [ht]; exact h.1⟩, h.2.F ht⟩) h.2.2.2 hd hlk)
-- calls of methods that return: by the receiver, and static ones
section CALLS
variable {y : MethodName} {bytes : ByteArray} {maxL mc ms n ix : Nat} {ret : Option FieldType} {rm : Room} {Cn : String} {b : Nat} {As : List Value}
theorem preV (C : cX z p m c cc nL s args own) (h : hH z v sc ar s H locs) (hb : ∃ cell : Cell, H[b]? = some cell ∧ cell.vm.isStatics = false ∧ s.vm.findClass Cn = some cell.cls) : PreV s H Cn b (pC z v sc ar (.ref b :: As)) As :=
  ⟨pC_blind, hb, fun _ hU hW => ⟨rfl, C.2.call h.2 hU hW, by rw [hU]; exact h.1⟩⟩
theorem preS (C : cX z p m c cc nL s args own) (h : hH z v sc ar s H locs) : PreS s H (pC z v sc ar As) As :=
  ⟨pC_blind, fun _ hU hW => ⟨rfl, C.2.call h.2 hU hW, by rw [hU]; exact h.1⟩⟩
/-- how a call comes back -/
theorem backI {post : Int32 → bS → Prop} {a : Array Value} {st0 : List Value} (h : hH z v sc ar s H locs) (hr : va_Run p l e R s m args below meth c H locs cells slots mc ms (F0 m pc ls st0) rest (qI z post a) (zA z))
    (kk : ∀ (r : Int32) (v' : bV) (sc' : Nat → Int32) (ar' : Nat → Nat → Int32) (H' : Heap) (locs' : List Loc), post r (v', sc', ar') → hH z v' sc' ar' s H' locs' → W p l e R s m args below meth c H' locs' (cells + mc) (slots + ms) Q (F0 m (pc + 3) ls (.int r :: rest))) : W p l e R s m args below meth c H locs cells slots Q (F0 m pc ls st0) :=
  va_calli hr h.2 (fun _ _ q => q) (fun _ q => q) (fun r u t H1 locs1 ht _ hp hB _ _ hS => kk r u.1 u.2.1 u.2.2 H1 locs1 hp ⟨by rw [← ht]; exact hB, hS⟩)
theorem backL {post : Int64 → bS → Prop} {a : Array Value} {st0 : List Value} (h : hH z v sc ar s H locs) (hr : va_Run p l e R s m args below meth c H locs cells slots mc ms (F0 m pc ls st0) rest (qL z post a) (zA z))
    (kk : ∀ (r : Int64) (v' : bV) (sc' : Nat → Int32) (ar' : Nat → Nat → Int32) (H' : Heap) (locs' : List Loc), post r (v', sc', ar') → hH z v' sc' ar' s H' locs' → W p l e R s m args below meth c H' locs' (cells + mc) (slots + ms) Q (F0 m (pc + 3) ls (.long r :: rest))) : W p l e R s m args below meth c H locs cells slots Q (F0 m pc ls st0) :=
  va_calll hr h.2 (fun _ _ q => q) (fun _ q => q) (fun r u t H1 locs1 ht _ hp hB _ _ hS => kk r u.1 u.2.1 u.2.2 H1 locs1 hp ⟨by rw [← ht]; exact hB, hS⟩)
theorem backV {post : bS → Prop} {a : Array Value} {st0 : List Value} (h : hH z v sc ar s H locs) (hr : va_Run p l e R s m args below meth c H locs cells slots mc ms (F0 m pc ls st0) rest (qV z post a) (zA z))
    (kk : ∀ (v' : bV) (sc' : Nat → Int32) (ar' : Nat → Nat → Int32) (H' : Heap) (locs' : List Loc), post (v', sc', ar') → hH z v' sc' ar' s H' locs' → W p l e R s m args below meth c H' locs' (cells + mc) (slots + ms) Q (F0 m (pc + 3) ls rest)) : W p l e R s m args below meth c H locs cells slots Q (F0 m pc ls st0) :=
  va_callv hr h.2 (fun _ _ q => q) (fun _ q => q) (fun u t H1 locs1 ht _ hp hB _ _ hS => kk u.1 u.2.1 u.2.2 H1 locs1 hp ⟨by rw [← ht]; exact hB, hS⟩)
abbrev okN (y : MethodName) (n : Nat) : Prop := y.cls ≠ "java/lang/invoke/MethodHandle" ∧ y.cls ≠ "java/lang/invoke/VarHandle" ∧ (parseMethodDescriptor y.desc).map (fun d => d.parameters.length) = some n
theorem runV {Qc : Array Value → State → Outcome → State → Prop} (C : cX z p m c cc nL s args own) (h : hH z v sc ar s H locs) (hM : Met l y (Cond.code y bytes maxL ret :: uW) rm (pC z v sc ar (.ref b :: As)) Qc mc ms (zA z)) (hG : GoodIn uW (wsV own ix y.cls y (Cond.code y bytes maxL ret :: uW))) (hd : okN y n)
    (hrm : rm.cells = mc ∧ rm.slots = ms) (hb : ∃ cell : Cell, H[b]? = some cell ∧ cell.vm.isStatics = false ∧ s.vm.findClass y.cls = some cell.cls) (hn : As.length = n) (hl : ls.size = nL) {st0 : List Value} (hst : st0 = As.reverse ++ .ref b :: rest) (hW : (rest.map fun v => v.category).sum ≤ 8) (hdg : decode cc pc = .ok (.invokevirtual ix, 3))
    (hR : rm.frames + 1 ≤ R.frames ∧ 8 + (maxL + 11) + rm.locals ≤ R.locals) (hf : cells + mc ≤ R.cells ∧ slots + ms ≤ R.slots) : va_Run p l e R s m args below meth c H locs cells slots mc ms (F0 m pc ls st0) rest (Qc (Value.ref b :: As).toArray) (zA z) :=
  va_runV C.1 hM (cwV n C.1.2.2.2.2 hG rfl hrm.1 hrm.2 ⟨rfl, hd⟩ hR) (preV C h hb) rfl hn hl hst (lv_room (m := m) (pc := pc) (ls := ls) (rest := st0) hW) hdg hf
theorem runS {Qc : Array Value → State → Outcome → State → Prop} (C : cX z p m c cc nL s args own) (h : hH z v sc ar s H locs) (hM : Met l y (Cond.code y bytes maxL ret :: uW) rm (pC z v sc ar As) Qc mc ms (zA z)) (hG : GoodIn uW (va_wsS own ix y (Cond.code y bytes maxL ret :: uW))) (hd : okN y n)
    (hrm : rm.cells = mc ∧ rm.slots = ms) (hn : As.length = n) (hl : ls.size = nL) {st0 : List Value} (hst : st0 = As.reverse ++ rest) (hW : (rest.map fun v => v.category).sum ≤ 8) (hdg : decode cc pc = .ok (.invokestatic ix, 3))
    (hR : rm.frames + 1 ≤ R.frames ∧ 8 + (maxL + 11) + rm.locals ≤ R.locals) (hf : cells + mc ≤ R.cells ∧ slots + ms ≤ R.slots) : va_Run p l e R s m args below meth c H locs cells slots mc ms (F0 m pc ls st0) rest (Qc As.toArray) (zA z) :=
  va_runS C.1 hM (va_cwS n C.1.2.2.2.2 hG rfl hrm.1 hrm.2 hd hR) (preS C h) rfl hn hl hst (lv_room (m := m) (pc := pc) (ls := ls) (rest := st0) hW) hdg hf
theorem gI_U {own C owner : String} {ix n : Nat} {x y : MethodName} {b : ByteArray} {r : Option FieldType} (h1 : Cond.methodLink own ix x ∈ uW) (h2 : Cond.sameMethod x.cls owner x.name x.desc ∈ uW) (h3 : Cond.selects C x y ∈ uW) (h4 : Cond.instanceMethod y ∈ uW) (h5 : Cond.initialized y.cls ∈ uW) (h6 : Cond.code y b n r ∈ uW) : GoodIn uW (va_wsU own ix C owner x y (Cond.code y b n r :: uW)) :=
  gI_cons h1 (gI_cons h2 (gI_cons h3 (gI_cons h4 (gI_cons h5 (gI_cons h6 gI_all)))))
theorem runA {Qc : Array Value → State → Outcome → State → Prop} {x : MethodName} {owner : String} (C : cX z p m c cc nL s args own) (h : hH z v sc ar s H locs) (hM : Met l y (Cond.code y bytes maxL ret :: uW) rm (pC z v sc ar (.ref b :: As)) Qc mc ms (zA z)) (hG : GoodIn uW (va_wsU own ix y.cls owner x y (Cond.code y bytes maxL ret :: uW))) (hz : va_Nw (.declares ⟨owner, x.name, x.desc⟩) s)
    (hd : owner ≠ "java/lang/invoke/MethodHandle" ∧ owner ≠ "java/lang/invoke/VarHandle" ∧ (parseMethodDescriptor x.desc).map (fun d => d.parameters.length) = some n)
    (hrm : rm.cells = mc ∧ rm.slots = ms) (hb : ∃ cell : Cell, H[b]? = some cell ∧ cell.vm.isStatics = false ∧ s.vm.findClass y.cls = some cell.cls) (hn : As.length = n) (hl : ls.size = nL) {st0 : List Value} (hst : st0 = As.reverse ++ .ref b :: rest) (hW : (rest.map fun v => v.category).sum ≤ 8) (hdg : decode cc pc = .ok (.invokevirtual ix, 3))
    (hR : rm.frames + 1 ≤ R.frames ∧ 8 + (maxL + 11) + rm.locals ≤ R.locals) (hf : cells + mc ≤ R.cells ∧ slots + ms ≤ R.slots) : va_Run p l e R s m args below meth c H locs cells slots mc ms (F0 m pc ls st0) rest (Qc (Value.ref b :: As).toArray) (zA z) :=
  va_runU C.1 hM (va_cwA n C.1.2.2.2.2 hG rfl hrm.1 hrm.2 hz hd hR) (preV C h hb) rfl hn hl hst (lv_room (m := m) (pc := pc) (ls := ls) (rest := st0) hW) hdg hf
end CALLS
end BASE
