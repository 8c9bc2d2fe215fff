/-! How the objects are made. -/
abbrev gI (z : bZ) (ws : va_W) (H : Heap) : Prop := va_P (zD z) vwCl ws H ∧ va_D (zA z) ws
def gH (z : bZ) (ws : va_W) (s : State) (H : Heap) (locs : List Loc) : Prop := gI z ws H ∧ va_S (zA z) s.heap H locs
abbrev pN (z : bZ) (ws : va_W) (av : List Value) : Array Value → State → Prop := va_Pc av (fun U => EV z U ∧ gI z ws U.heap)
abbrev qN (z : bZ) (shape : va_W → Prop) : Array Value → State → Outcome → State → Prop := va_Qv (S := va_W) shape (fun ws t => gI z ws t.heap) (zA z)
/-- the same classes; what may change is the cell a and what is made from n0 on -/
def zN (z : bZ) (a n0 : Nat) : bZ := (z.1, z.2.1, z.2.2.1, fun q => q = a ∨ n0 ≤ q)
theorem EV.narrow {z : bZ} {U : State} {a n0 : Nat} (h : EV z U) (ha : zA z a) (hn : ∀ q, n0 ≤ q → zA z q) (hU : ∀ q, U.heap.size ≤ q → n0 ≤ q) : EV (zN z a n0) U := by
  obtain ⟨h1, h2, h3, h4, h5, ⟨h7, h8⟩, h9, h10, h11, h12, h13⟩ := h
  have hs : ∀ q, zA (zN z a n0) q → zA z q := fun q hq => by
    rcases hq with e | e
    · rw [e]; exact ha
    · exact hn q e
  exact ⟨h1, fun q hq => Or.inr (hU q hq), h3, h4, h5, ⟨h7.narrow hs, h8.narrow hs⟩, h9, h10, h11, h12, h13⟩
section MAKE
variable {p : Program} {l : Launch} {e : Env} {R : Room} {s : State} {m : MethodId} {args : Array Value} {below : List Frame} {meth : Method} {c : Code} {H : Heap} {locs : List Loc} {cells slots : Nat} {Q : State → Prop}
variable {z : bZ} {ws : va_W} {cc : ByteArray} {nL : Nat} {own : String} {pc : Nat} {ls : Array Slot} {rest : List Value}
theorem eG {y : MethodName} {ret : Option FieldType} {rm : Room} {av : List Value} {Qc : Array Value → State → Outcome → State → Prop} {mc ms : Nat} (hy : plainName y.cls = true) (hav : (lg_sl av).length ≤ nL)
    (body : ∀ (p : Program) (e : Env) (s : State) (m : MethodId) (below : List Frame) (meth : Method) (c : Code) (ls : Array Slot), cX z p m c cc nL s av.toArray y.cls → meth.sig.returnType = ret → meth.locks = false → meth.name = y.name → gH z ws s s.heap [] → lv_has ls nL (lv_args 0 av) →
      W p l e rm s m av.toArray below meth c s.heap [] 0 0 (MQ below Qc av.toArray s mc ms (zA z)) (F0 m 0 ls [])) : Met l y (Cond.code y cc nL ret :: uW) rm (pN z ws av) Qc mc ms (zA z) := by
  refine Met.ofW (cc := cc) (maxL := nL) (ret := ret) hy rfl ?_
  intro p e s m args below meth c s₁ B hml hv
  obtain ⟨rfl, hE, hh⟩ := hv
  have hts := atoms_spec (ws := Cond.code y cc nL ret :: uW) B.pre
  have hl := lv_entry av (n := nL) hav
  rw [lg_entry_eq]
  exact body p e s m below meth c _ ⟨⟨B.exec, B.bytes, hml, findClass_of_methodNamed B.named, fun w hw => hts w (List.mem_cons_of_mem _ hw)⟩, hE⟩ B.returns B.notSynchronized (name_of_methodNamed B.named B.method).1 ⟨hh, va_S.rf⟩ hl
theorem gV {shape : va_W → Prop} {mc ms : Nat} (C : cX z p m c cc nL s args own) (hr : meth.sig.returnType = none) (hlk : meth.locks = false) (h : gH z ws s H locs) (hd : decode cc pc = .ok (.return_, 1)) (hc : cells ≤ mc) (hs : slots ≤ ms) (hp : shape ws) : W p l e R s m args below meth c H locs cells slots (MQ below (qN z shape) args s mc ms (zA z)) (F0 m pc ls []) :=
  W.widen hc hs (W.vret C.1.1 C.1.2.1 hr (fun t ht _ => ⟨⟨ws, rfl, hp, by show gI z ws t.heap; rw [ht]; exact h.1⟩, h.2.F ht⟩) h.2.2.2 hd hlk)
theorem clI {cA : ClassId} {ty : FieldType} {k : Nat} {U : State} (hK : va_K (zD z) vwCl (zT z ++ [(cA, ty)]) U) (h0 : va_K (zD z) vwCl (zT z) U) {x : ClassId} (hk : (zT z)[k]? = some (x, ty)) (hty : ∀ C, ty ≠ .object C) : cA = x := by
  have h1 := (hK.2 5 (cA, ty) rfl).2
  have h2 := (h0.2 k (x, ty) hk).2
  unfold va_RA at h1 h2
  cases ty <;> first | exact absurd rfl (hty _) | exact Option.some.inj (h1.symm.trans h2)
theorem clO {cA : ClassId} {Cn : String} {k : Nat} {U : State} (hK : va_K (zD z) vwCl (zT z ++ [(cA, .object Cn)]) U) (h0 : va_K (zD z) vwCl (zT z) U) {x : ClassId} (hk : (zT z)[k]? = some (x, .object Cn)) : cA = x := by
  obtain ⟨_, _, _, _, _, h1⟩ := (hK.2 5 (cA, .object Cn) rfl).2
  obtain ⟨_, _, _, _, _, h2⟩ := (h0.2 k (x, .object Cn) hk).2
  exact Option.some.inj (h1.symm.trans h2)
theorem gAI {N : Nat} (hN : N ≤ 100000) (hu : Cond.arrayClass .int ∈ uW) (C : cX z p m c cc nL s args own) (h : gH z ws s H locs) (hce : cells + 1 ≤ R.cells) (hsl : slots + N ≤ R.slots) (hd : decode cc pc = .ok (.newarray .int, 2))
    (kk : ∀ (q : Nat) (H1 : Heap), gH z (ws ++ [(q, .inl (zI z, N, .inl (fun _ => 0)))]) s H1 locs → W p l e R s m args below meth c H1 locs (cells + 1) (slots + N) Q (F0 m (pc + 2) ls (.ref q :: rest))) : W p l e R s m args below meth c H locs cells slots Q (F0 m pc ls (.int (nI N) :: rest)) := by
  refine va_newa (atype := .int) (D := zD z) (ws := ws) (a0 := (N, .inl (fun _ => 0))) C.1.1 C.1.2.1 (C.1.2.2.2.2 _ hu) rfl C.2.1 h.1.1 h.1.2 h.2 C.2.2.1 (fun _ => rfl) (nI_pos (by omega)) (nI_clamp (by omega)) (by show N * 4 ≤ _; omega) hce hsl hd (fun q cA H1 hK hP hD hS => ?_)
  have e := clI hK C.2.1 (k := 1) rfl (fun _ h => by cases h)
  subst e
  exact kk q H1 ⟨⟨hP, hD⟩, hS⟩
theorem gAB {N : Nat} (hN : N ≤ 100000) (hu : Cond.arrayClass .byte ∈ uW) (C : cX z p m c cc nL s args own) (h : gH z ws s H locs) (hce : cells + 1 ≤ R.cells) (hsl : slots + N ≤ R.slots) (hd : decode cc pc = .ok (.newarray .byte, 2))
    (kk : ∀ (q : Nat) (H1 : Heap), gH z (ws ++ [(q, .inl (zB z, N, .inl (fun _ => 0)))]) s H1 locs → W p l e R s m args below meth c H1 locs (cells + 1) (slots + N) Q (F0 m (pc + 2) ls (.ref q :: rest))) : W p l e R s m args below meth c H locs cells slots Q (F0 m pc ls (.int (nI N) :: rest)) := by
  refine va_newa (atype := .byte) (D := zD z) (ws := ws) (a0 := (N, .inl (fun _ => 0))) C.1.1 C.1.2.1 (C.1.2.2.2.2 _ hu) rfl C.2.1 h.1.1 h.1.2 h.2 C.2.2.1 (fun _ => rfl) (nI_pos (by omega)) (nI_clamp (by omega)) (by show N * 1 ≤ _; omega) hce hsl hd (fun q cA H1 hK hP hD hS => ?_)
  have e := clI hK C.2.1 (k := 0) rfl (fun _ h => by cases h)
  subst e
  exact kk q H1 ⟨⟨hP, hD⟩, hS⟩
theorem gAJ {N : Nat} (hN : N ≤ 100000) (hu : Cond.arrayClass .long ∈ uW) (C : cX z p m c cc nL s args own) (h : gH z ws s H locs) (hce : cells + 1 ≤ R.cells) (hsl : slots + N ≤ R.slots) (hd : decode cc pc = .ok (.newarray .long, 2))
    (kk : ∀ (q : Nat) (H1 : Heap), gH z (ws ++ [(q, .inl (zJ z, N, .inr (.inl (fun _ => 0))))]) s H1 locs → W p l e R s m args below meth c H1 locs (cells + 1) (slots + N) Q (F0 m (pc + 2) ls (.ref q :: rest))) : W p l e R s m args below meth c H locs cells slots Q (F0 m pc ls (.int (nI N) :: rest)) := by
  refine va_newa (atype := .long) (D := zD z) (ws := ws) (a0 := (N, .inr (.inl (fun _ => 0)))) C.1.1 C.1.2.1 (C.1.2.2.2.2 _ hu) rfl C.2.1 h.1.1 h.1.2 h.2 C.2.2.1 (fun _ => rfl) (nI_pos (by omega)) (nI_clamp (by omega)) (by show N * 8 ≤ _; omega) hce hsl hd (fun q cA H1 hK hP hD hS => ?_)
  have e := clI hK C.2.1 (k := 4) rfl (fun _ h => by cases h)
  subst e
  exact kk q H1 ⟨⟨hP, hD⟩, hS⟩
theorem gAQ {N ix k : Nat} {Cn : String} {x : ClassId} (hN : N ≤ 100000) (hk : (zT z)[k]? = some (x, .object Cn)) (hu : Cond.classLink own ix Cn ∈ uW) (hov : va_AO Cn s) (C : cX z p m c cc nL s args own) (h : gH z ws s H locs) (hce : cells + 1 ≤ R.cells) (hsl : slots + N ≤ R.slots) (hd : decode cc pc = .ok (.anewarray ix, 3))
    (kk : ∀ (q : Nat) (H1 : Heap), gH z (ws ++ [(q, .inl (x, N, .inr (.inr (.inr (.inr (fun _ => none))))))]) s H1 locs → W p l e R s m args below meth c H1 locs (cells + 1) (slots + N) Q (F0 m (pc + 3) ls (.ref q :: rest))) : W p l e R s m args below meth c H locs cells slots Q (F0 m pc ls (.int (nI N) :: rest)) := by
  refine va_newq (D := zD z) (ws := ws) C.1.1 C.1.2.1 C.1.2.2.2.1 (C.1.2.2.2.2 _ hu) hov C.2.1 h.1.1 h.1.2 h.2 C.2.2.1 (nI_pos (by omega)) (nI_clamp (by omega)) (by omega) hce hsl hd (fun q cA H1 hK hP hD hS => ?_)
  have e := clO hK C.2.1 hk
  subst e
  exact kk q H1 ⟨⟨hP, hD⟩, hS⟩
theorem gNew {ci N ix : Nat} {Cn : String} {T : u_T} {ty0 : Nat → FieldType} {fs : List Value} (C : cX z p m c cc nL s args own) (h : gH z ws s H locs) (hc : vwCl[ci]? = some (Cn, T, N)) (hi : ∀ w ∈ u_ws Cn T N, w ∈ uW) (hty : ∀ k, k < N → parseFieldDescriptor (T k).2.2.1 = some (ty0 k)) (hk : Cond.classLink own ix Cn ∈ uW) (hin : Cond.instantiable Cn N ∈ uW) (hini : Cond.initialized Cn ∈ uW) (hfs : ∀ j, j < N → defaultValue (ty0 j) = vp_V fs j) (hce : cells + 1 ≤ R.cells) (hsl : slots + N ≤ R.slots) (hd : decode cc pc = .ok (.new ix, 3))
    (kk : ∀ (q : Nat) (H1 : Heap), gH z (ws ++ [(q, .inr (ci, fs))]) s H1 locs → W p l e R s m args below meth c H1 locs (cells + 1) (slots + N) Q (F0 m (pc + 3) ls (.ref q :: rest))) : W p l e R s m args below meth c H locs cells slots Q (F0 m pc ls rest) :=
  va_new (D := zD z) (ws := ws) C.1.1 C.1.2.1 C.1.2.2.2.2 hi ty0 hty C.1.2.2.2.1 (C.1.2.2.2.2 _ hk) (C.1.2.2.2.2 _ hin) (C.1.2.2.2.2 _ hini) C.2.1 h.1.1 h.1.2 h.2 C.2.2.1 hc hfs hce hsl hd (fun q H1 hP hD hS => kk q H1 ⟨⟨hP, hD⟩, hS⟩)
theorem gPut {ci k N a ix : Nat} (q0 : Nat) {Cn : String} {T : u_T} {ty0 : Nat → FieldType} {fs : List Value} {x : Value} {ty : FieldType} (C : cX z p m c cc nL s args own) (h : gH z ws s H locs) (hq : ws[q0]? = some (a, .inr (ci, fs))) (hc : vwCl[ci]? = some (Cn, T, N)) (hk : k < N) (hi : ∀ w ∈ u_ws Cn T N, w ∈ uW) (hty : ∀ k, k < N → parseFieldDescriptor (T k).2.2.1 = some (ty0 k)) (hnm : ∀ a, a < N → ∀ b, b < N → a ≠ b → (T a).2.1 ≠ (T b).2.1) (hl : Cond.fieldLink own ix (T k).1 (T k).2.1 (T k).2.2.1 ∈ uW)
    (hfin : (T k).2.2.2 = false) (hdt : parseFieldDescriptor (T k).2.2.1 = some ty) (hn : narrow ty x = x) (hfit : fits ty x = true) (hlen : k < fs.length) (hd : decode cc pc = .ok (.putfield ix, 3))
    (kk : ∀ (H1 : Heap) (locs1 : List Loc), gH z (ws.set q0 (a, .inr (ci, fs.set k x))) s H1 locs1 → W p l e R s m args below meth c H1 locs1 cells slots Q (F0 m (pc + 3) ls rest)) : W p l e R s m args below meth c H locs cells slots Q (F0 m pc ls (x :: .ref a :: rest)) :=
  va_put (D := zD z) (ws := ws) C.1.1 C.1.2.1 C.1.2.2.2.2 hi ty0 hty hnm C.1.2.2.2.1 C.2.1 h.1.1 h.1.2 h.2 q0 hq hc k hk (C.1.2.2.2.2 _ hl) (fun _ h9 => h9) hfin hdt hn hfit hlen hd (fun H1 locs1 hP hD hS => kk H1 locs1 ⟨⟨hP, hD⟩, hS⟩)
theorem gPutF {ci k N a ix : Nat} (q0 : Nat) {Cn : String} {T : u_T} {ty0 : Nat → FieldType} {fs : List Value} {x : Value} {ty : FieldType} (C : cX z p m c cc nL s args own) (h : gH z ws s H locs) (hin : meth.name = "<init>") (hq : ws[q0]? = some (a, .inr (ci, fs))) (hc : vwCl[ci]? = some (Cn, T, N)) (hk : k < N) (hi : ∀ w ∈ u_ws Cn T N, w ∈ uW) (hty : ∀ k, k < N → parseFieldDescriptor (T k).2.2.1 = some (ty0 k)) (hnm : ∀ a, a < N → ∀ b, b < N → a ≠ b → (T a).2.1 ≠ (T b).2.1) (hl : Cond.fieldLink own ix (T k).1 (T k).2.1 (T k).2.2.1 ∈ uW)
    (hfin : (T k).2.2.2 = true) (hdecl : (T k).1 = own) (hdt : parseFieldDescriptor (T k).2.2.1 = some ty) (hn : narrow ty x = x) (hfit : fits ty x = true) (hlen : k < fs.length) (hd : decode cc pc = .ok (.putfield ix, 3))
    (kk : ∀ (H1 : Heap) (locs1 : List Loc), gH z (ws.set q0 (a, .inr (ci, fs.set k x))) s H1 locs1 → W p l e R s m args below meth c H1 locs1 cells slots Q (F0 m (pc + 3) ls rest)) : W p l e R s m args below meth c H locs cells slots Q (F0 m pc ls (x :: .ref a :: rest)) :=
  va_putF (D := zD z) (ws := ws) C.1.1 C.1.2.1 C.1.2.2.2.2 hi ty0 hty hnm C.1.2.2.2.1 C.2.1 h.1.1 h.1.2 h.2 q0 hq hc k hk (C.1.2.2.2.2 _ hl) (fun _ h9 => h9) hfin hin hdecl hdt hn hfit hlen hd (fun H1 locs1 hP hD hS => kk H1 locs1 ⟨⟨hP, hD⟩, hS⟩)
section CALLN
variable {y : MethodName} {bytes : ByteArray} {maxL mc ms ix a : Nat} {rm : Room} {w0 : va_W} {d : va_E} {shape : va_W → Prop}
theorem nA1 (C : cX z p m c cc nL s args own) (h : gH z (w0 ++ [(a, d)]) s H locs) : ∀ q, zA (zN z a H.size) q → zA z q := fun q hq => by
  rcases hq with e | e
  · rw [e]
    exact h.1.2.2 w0.length (a, d) (by rw [List.getElem?_append_right (Nat.le_refl _), Nat.sub_self]; rfl)
  · exact C.2.2.1 q (Nat.le_trans h.2.1 e)
theorem preN (C : cX z p m c cc nL s args own) (h : gH z (w0 ++ [(a, d)]) s H locs) : PreS s H (pN (zN z a H.size) [(a, d)] [.ref a]) [.ref a] := by
  have ha : (w0 ++ [(a, d)])[w0.length]? = some (a, d) := by rw [List.getElem?_append_right (Nat.le_refl _), Nat.sub_self]; rfl
  refine ⟨fun _ _ _ _ h => ⟨h.1, h.2.1.frame, h.2.2⟩, fun U hU hW => ⟨rfl, ?_, ?_, ?_, ?_⟩⟩
  · exact (C.2.call h.2 hU hW).narrow (nA1 C h a (Or.inl rfl)) (fun q hq => nA1 C h q (Or.inr hq)) (fun q hq => by rw [hU] at hq; exact hq)
  · rw [hU]
    intro k q hk
    rcases k with _ | k
    · cases hk; exact h.1.1 w0.length (a, d) ha
    · cases hk
  · intro i j p q hi hj _
    rcases i with _ | i
    · rcases j with _ | j
      · rfl
      · cases hj
    · cases hi
  · intro k q hk
    rcases k with _ | k
    · cases hk; exact Or.inl rfl
    · cases hk
theorem backN {aa : Array Value} {st0 : List Value} (C : cX z p m c cc nL s args own) (h : gH z (w0 ++ [(a, d)]) s H locs) (hr : va_Run p l e R s m args below meth c H locs cells slots mc ms (F0 m pc ls st0) rest (qN (zN z a H.size) shape aa) (zA (zN z a H.size)))
    (kk : ∀ (ws : va_W) (H' : Heap) (locs' : List Loc), shape ws → gH z (w0 ++ ws) s H' locs' → W p l e R s m args below meth c H' locs' (cells + mc) (slots + ms) Q (F0 m (pc + 3) ls rest)) : W p l e R s m args below meth c H locs cells slots Q (F0 m pc ls st0) := by
  have ha : (w0 ++ [(a, d)])[w0.length]? = some (a, d) := by rw [List.getElem?_append_right (Nat.le_refl _), Nat.sub_self]; rfl
  have hlo : ∀ (k : Nat) (x : Nat × va_E), w0[k]? = some x → x.1 < H.size ∧ x.1 ≠ a := fun k x hx => by
    have hkl : k < w0.length := (List.getElem?_eq_some_iff.mp hx).1
    have hx2 : (w0 ++ [(a, d)])[k]? = some x := by rw [List.getElem?_append_left hkl]; exact hx
    refine ⟨(h.1.1 k x hx2).lt, fun e => ?_⟩
    have := h.1.2.1 k w0.length x (a, d) hx2 ha e
    omega
  refine va_callv hr h.2 (fun q _ => nA1 C h q) (nA1 C h) (fun u t H1 locs1 ht _ hp hB hsz hkeep hS => kk u H1 locs1 hp ⟨⟨?_, ?_⟩, hS⟩)
  · refine va_P.app (fun k x hx => ?_) (by rw [← ht]; exact hB.1)
    have hkl : k < w0.length := (List.getElem?_eq_some_iff.mp hx).1
    have hx2 : (w0 ++ [(a, d)])[k]? = some x := by rw [List.getElem?_append_left hkl]; exact hx
    obtain ⟨h1, h2⟩ := hlo k x hx
    exact (h.1.1 k x hx2).kept (hkeep x.1 h1 (fun q => by
      rcases q with q | q
      · exact h2 q
      · omega))
  · refine va_D.app ⟨fun i j p q hi hj e => ?_, fun k x hx => ?_⟩ ⟨hB.2.1, fun k x hx => nA1 C h x.1 (hB.2.2 k x hx)⟩ (fun i j p q hi hj e => ?_)
    · have hil : i < w0.length := (List.getElem?_eq_some_iff.mp hi).1
      have hjl : j < w0.length := (List.getElem?_eq_some_iff.mp hj).1
      exact h.1.2.1 i j p q (by rw [List.getElem?_append_left hil]; exact hi) (by rw [List.getElem?_append_left hjl]; exact hj) e
    · have hkl : k < w0.length := (List.getElem?_eq_some_iff.mp hx).1
      exact h.1.2.2 k x (by rw [List.getElem?_append_left hkl]; exact hx)
    · obtain ⟨h1, h2⟩ := hlo i p hi
      rcases hB.2.2 j q hj with q2 | q2
      · exact h2 (e.trans q2)
      · rw [← e] at q2; omega
theorem gRunI (C : cX z p m c cc nL s args own) (h : gH z (w0 ++ [(a, d)]) s H locs) (hM : Met l y (Cond.code y bytes maxL none :: uW) rm (pN (zN z a H.size) [(a, d)] [.ref a]) (qN (zN z a H.size) shape) mc ms (zA (zN z a H.size))) (hG : GoodIn uW (Cond.code y bytes maxL none :: uW)) (hk : Cond.methodLink own ix y ∈ uW) (hin : Cond.instanceMethod y ∈ uW) (hini : Cond.initialized y.cls ∈ uW) (hy1 : y.name = "<init>") (hd : okN y 0)
    (hrm : rm.cells = mc ∧ rm.slots = ms) (hl : ls.size = nL) (hW : (rest.map fun v => v.category).sum ≤ 8) (hdg : decode cc pc = .ok (.invokespecial ix, 3)) (hR : rm.frames + 1 ≤ R.frames ∧ 8 + (maxL + 11) + rm.locals ≤ R.locals) (hf : cells + mc ≤ R.cells ∧ slots + ms ≤ R.slots) : va_Run p l e R s m args below meth c H locs cells slots mc ms (F0 m pc ls (.ref a :: rest)) rest (qN (zN z a H.size) shape #[.ref a]) (zA (zN z a H.size)) :=
  va_runI (As := []) C.1 hM (cwI 0 C.1.2.2.2.2 hG rfl hrm.1 hrm.2 (C.1.2.2.2.2 _ hini) (C.1.2.2.2.2 _ hk) (C.1.2.2.2.2 _ hin) hy1 hd hR) (preN C h) rfl rfl hl rfl (lv_room (m := m) (pc := pc) (ls := ls) (rest := .ref a :: rest) hW) hdg hf
theorem gRunN {host : String} (C : cX z p m c cc nL s args own) (h : gH z (w0 ++ [(a, d)]) s H locs) (hM : Met l y (Cond.code y bytes maxL none :: uW) rm (pN (zN z a H.size) [(a, d)] [.ref a]) (qN (zN z a H.size) shape) mc ms (zA (zN z a H.size))) (hG : GoodIn uW (Cond.code y bytes maxL none :: uW)) (hk : va_Nw (.methodLinkNest own ix y host) s) (hin : Cond.instanceMethod y ∈ uW) (hini : Cond.initialized y.cls ∈ uW) (hy1 : y.name = "<init>") (hd : okN y 0)
    (hrm : rm.cells = mc ∧ rm.slots = ms) (hl : ls.size = nL) (hW : (rest.map fun v => v.category).sum ≤ 8) (hdg : decode cc pc = .ok (.invokespecial ix, 3)) (hR : rm.frames + 1 ≤ R.frames ∧ 8 + (maxL + 11) + rm.locals ≤ R.locals) (hf : cells + mc ≤ R.cells ∧ slots + ms ≤ R.slots) : va_Run p l e R s m args below meth c H locs cells slots mc ms (F0 m pc ls (.ref a :: rest)) rest (qN (zN z a H.size) shape #[.ref a]) (zA (zN z a H.size)) :=
  va_runIN (As := []) C.1 hM ⟨va_cnB 0 C.1.2.2.2.2 hG rfl hrm.1 hrm.2 hk (C.1.2.2.2.2 _ hini) hd hR, hy1, C.1.2.2.2.2 _ hin⟩ (preN C h) rfl rfl hl rfl (lv_room (m := m) (pc := pc) (ls := ls) (rest := .ref a :: rest) hW) hdg hf
end CALLN
end MAKE
theorem uaI : Cond.arrayClass .int ∈ uW := uW_of (by decide +kernel) rfl
theorem uaB : Cond.arrayClass .byte ∈ uW := uW_of (by decide +kernel) rfl
theorem uaJ : Cond.arrayClass .long ∈ uW := uW_of (by decide +kernel) rfl

