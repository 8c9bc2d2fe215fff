/-! The law's own methods: they call the class and tell what was thrown. -/
section LAWROWS
variable {p : Program} {l : Launch} {e : Env} {R : Room} {s : State} {m : MethodId} {args : Array Value} {below : List Frame} {meth : Method} {c : Code} {H : Heap} {locs : List Loc} {cells slots : Nat} {Q : State → Prop}
variable {z : bZ} {v : bV} {sc : Nat → Int32} {ar : Nat → Nat → Int32} {cc : ByteArray} {nL : Nat} {own : String} {pc : Nat} {ls : Array Slot} {rest : List Value}
/-- the contract of a method with handlers that lets nothing out -/
theorem eH {y : MethodName} {ret : Option FieldType} {rm : Room} {av : List Value} {Qc : Array Value → State → Outcome → State → Prop} {mc ms : Nat} {hh : List (Nat × Nat × Nat × Nat)} (hy : plainName y.cls = true) (hav : (lg_sl av).length ≤ nL)
    (body : ∀ (p : Program) (e : Env) (s : State) (m : MethodId) (below : List Frame) (meth : Method) (c : Code) (ls : Array Slot), cX z p m c cc nL s av.toArray y.cls → meth.sig.returnType = ret → meth.locks = false → c.exceptionTable.toList = tableOf hh → hH z v sc ar s s.heap [] → lv_has ls nL (lv_args 0 av) →
      W p l e rm s m av.toArray below meth c s.heap [] 0 0 (MQ below Qc av.toArray s mc ms (zA z)) (F0 m 0 ls [])) : Met l y (Cond.codeWith y cc nL ret hh :: uW) rm (pC z v sc ar av) Qc mc ms (zA z) := by
  refine MetFree.of_bodyS (code := cc) (maxLocals := nL) (ret := ret) hy ?_ ?_
  · intro args s m h hn
    obtain ⟨m9, meth, c, hn9, h1, h2, h3, h4, -, h5, h6, -⟩ := Cond.codeWith_spec (atoms_spec (ws := Cond.codeWith y cc nL ret hh :: uW) h _ List.mem_cons_self)
    cases hn.symm.trans hn9
    exact ⟨meth, c, h1, h2, h3, h4, h5, h6⟩
  · intro p e s m args below meth c s₁ B hml hP _
    have hh0 : s₁.heap = s.heap := by rw [B.state]; rfl
    obtain ⟨rfl, hE, hI0⟩ := hP
    have hts := atoms_spec (ws := Cond.codeWith y cc nL ret hh :: uW) B.pre
    have hl := lv_entry av (n := nL) hav
    have hb := body p e s m below meth c _ ⟨⟨B.exec, B.bytes, hml, findClass_of_methodNamed B.named, fun w hw => hts w (List.mem_cons_of_mem _ hw)⟩, hE⟩ B.returns B.notSynchronized (vx_table (x := y) B (hts _ List.mem_cons_self)) ⟨hI0, va_S.rf⟩ hl
    rw [← lg_entry_eq] at hb
    obtain ⟨t, a1, o, b1, b2, b3⟩ := hb s₁ hh0 (Stand.of_body B)
    exact ⟨t, o, a1, b1, b2, ⟨b3.1, b3.2⟩⟩
theorem xCt {E nm : String} {ce : Cell} {q : Addr} (pre : List ExceptionTableEntry) (x : ExceptionTableEntry) (suf : List ExceptionTableEntry) (C : cX z p m c cc nL s args own) (hsplit : c.exceptionTable.toList = pre ++ x :: suf) (hpass : ∀ y ∈ pre, y.catchType ≠ 0 ∧ ∃ nm' : String, Cond.classLink own y.catchType nm' ∈ uW ∧ va_Nc E nm' s) (hx : covers x pc = true) (h0 : x.catchType ≠ 0) (hk : Cond.classLink own x.catchType nm ∈ uW) (hc : va_Nw (.castable E nm) s) (ht : (Cond.castable E nm).onTables = true)
    (h1 : H[q]? = some ce) (h2 : ce.vm = .none) (h3 : s.vm.findClass E = some ce.cls) (kk : W p l e R s m args below meth c H locs cells slots Q (F0 m x.handlerPc ls [.ref q])) : vx_W p l e R s m args below meth c H locs cells slots Q (F0 m pc ls rest) q :=
  vx_catch C.1.2.2.2.1 pre x suf hsplit (fun y hy => Or.inr ⟨(hpass y hy).1, by obtain ⟨n1, a, b⟩ := (hpass y hy).2; exact ⟨n1, C.1.2.2.2.2 _ a, b⟩⟩) hx h0 (C.1.2.2.2.2 _ hk) (va_Nw.use ht hc) h1 h2 h3 kk
/-- the answer laid into the law's out -/
def stO (v : bV) (x : Int64) : bV := (v.1, vp_updL v.2.1 0 x, v.2.2)
theorem stJ {x : Int64} (C : cX z p m c cc nL s args own) (h : hH z v sc ar s H locs) (hd : decode cc pc = .ok (.lastore, 1)) (kk : ∀ (H1 : Heap) (locs1 : List Loc), hH z (stO v x) sc ar s H1 locs1 → W p l e R s m args below meth c H1 locs1 cells slots Q (F0 m (pc + 1) ls rest)) : W p l e R s m args below meth c H locs cells slots Q (F0 m pc ls (.long x :: .int (nI 0) :: .ref (zad z 53) :: rest)) := by
  refine va_last C.1.1 C.1.2.1 C.2.1 h.1.1 h.1.2 h.2 53 4 rfl rfl (vp_in_nI (by decide) (by decide)) hd (fun H1 locs1 hP hD hS => ?_)
  rw [nI_clamp (by decide)] at hP hD
  exact kk H1 locs1 ⟨⟨hP, hD⟩, hS⟩
theorem ldJ (C : cX z p m c cc nL s args own) (h : hH z v sc ar s H locs) (hd : decode cc pc = .ok (.laload, 1)) (kk : W p l e R s m args below meth c H locs cells slots Q (F0 m (pc + 1) ls (.long (v.2.1 0) :: rest))) : W p l e R s m args below meth c H locs cells slots Q (F0 m pc ls (.int (nI 0) :: .ref (zad z 53) :: rest)) := by
  refine va_lald C.1.1 C.1.2.1 C.2.1 h.1.1 53 4 rfl rfl (vp_in_nI (by decide) (by decide)) hd ?_
  rw [nI_clamp (by decide)]
  exact kk
end LAWROWS
/-- what a law's method tells: two handlers -/
def wP2 (post : Int32 → bS → Prop) (px : String → bS → Prop) (k : Int32) (u : bS) : Prop := (k = nI 0 ∧ ∃ r u0, post r u0 ∧ u = (stO u0.1 r.toInt64, u0.2)) ∨ (k = nI 1 ∧ px xIA u) ∨ (k = nI 2 ∧ px xIS u)
/-- .. one handler -/
def wP1 (post : Int32 → bS → Prop) (px : String → bS → Prop) (k : Int32) (u : bS) : Prop := (k = nI 0 ∧ ∃ r u0, post r u0 ∧ u = (stO u0.1 r.toInt64, u0.2)) ∨ (k = nI 1 ∧ ∃ E, px E u)
def wPv (post : bS → Prop) (px : String → bS → Prop) (k : Int32) (u : bS) : Prop := (k = nI 0 ∧ post u) ∨ (k = nI 1 ∧ ∃ E, px E u)
theorem ulA : Cond.classLink RL 13 xIA ∈ uW := uW_of (by decide +kernel) rfl
theorem ulS : Cond.classLink RL 15 xIS ∈ uW := uW_of (by decide +kernel) rfl
theorem gv_L_7 : GoodIn uW (wsV RL 7 RX9 yX9_coding (Cond.code yX9_coding cX9_coding 5 (some .int) :: uW)) := gI_V (uW_of (by decide +kernel) rfl) (uW_of (by decide +kernel) rfl) (uW_of (by decide +kernel) rfl) (uW_of (by decide +kernel) rfl) (uW_of (by decide +kernel) rfl)
theorem gv_L_7_n : okN yX9_coding 4 := by decide +kernel
set_option maxHeartbeats 4000000 in
set_option maxRecDepth 100000 in
theorem w_coding (l : Launch) (z : bZ) (v : bV) (sc : Nat → Int32) (ar : Nat → Nat → Int32) (hl0 : l.stackTraces = false) (K : Nat) (b1 h1 s1 d1 : Int32) (hK : sc 0 = nI K) (hK4 : K ≤ 40) : Met l yL_coding (Cond.codeWith yL_coding cL_coding 7 (some .int) [(0, 14, 17, 13), (0, 14, 21, 15)] :: uW) { frames := 8, cells := 9, slots := 60, locals := 136 } (pC z v sc ar [.ref (zad z 0), .int (b1), .int (h1), .int (s1), .int (d1), .ref (zad z 53)]) (qI z (fun k u => wP2 (fun r u => ∃ cb ch cs cd q, (b1 = nI cb ∧ 1 ≤ cb ∧ cb ≤ 5) ∧ (h1 = nI ch ∧ 1 ≤ ch ∧ ch ≤ 256) ∧ (s1 = nI cs ∧ cs ≤ 2) ∧ (d1 = nI cd ∧ cd ≤ 1) ∧ K < 40 ∧ r = nI K ∧ q ∉ v.2.2.1 ∧ u = ((va_up v.1 K (some q), v.2.1, v.2.2.1 ++ [q], va_up v.2.2.2 q (.inr (1, [.int (nI (0)), .int (nI (cb)), .int (nI (ch)), .int (nI (cs)), .int (nI (cd)), .int (nI ((256) - (ch)))]))), va_up sc 0 (nI (K + 1)), ar)) (fun E u => (E = xIA ∧ u = (v, sc, ar) ∧ ¬ cdGood b1 h1 s1 d1) ∨ (E = xIS ∧ u = (v, sc, ar) ∧ cdGood b1 h1 s1 d1 ∧ 40 ≤ K)) k u)) 9 60 (zA z) := by
  refine eH (by decide) (Nat.le_of_ble_eq_true rfl) ?_
  intro pP eE s mM below meth cC ls C hr hlk hTb h hl
  have hx := C.1.1
  have hb := C.1.2.1
  have hl : lv_has ls 7 [(0, .ref (zad z 0)), (1, .int (b1)), (2, .int (h1)), (3, .int (s1)), (4, .int (d1)), (5, .ref (zad z 53))] := hl
  refine lv_aload hx hb dL_coding_0 (lv_at hl 5 rfl) ?_
  refine lv_iconst (v := nI (0)) hx hb dL_coding_2 (by decide) ?_
  refine lv_aload_n hx hb dL_coding_3 rfl (lv_at hl 0 rfl) ?_
  refine lv_iload_n hx hb dL_coding_4 rfl (lv_at hl 1 rfl) ?_
  refine lv_iload_n hx hb dL_coding_5 rfl (lv_at hl 2 rfl) ?_
  refine lv_iload_n hx hb dL_coding_6 rfl (lv_at hl 3 rfl) ?_
  refine lv_iload hx hb dL_coding_7 (lv_at hl 4 rfl) ?_
  refine xbI h (xrV (As := [.int (b1), .int (h1), .int (s1), .int (d1)]) (rest := [.int (nI (0)), .ref (zad z 53)]) C h (k_coding l z v sc ar hl0 K b1 h1 s1 d1 hK hK4) gv_L_7 gv_L_7_n ⟨rfl, rfl⟩ (r_BM C h) rfl hl.1 rfl (Nat.le_of_ble_eq_true rfl) dL_coding_9 ⟨Nat.le_of_ble_eq_true rfl, Nat.le_of_ble_eq_true rfl⟩ ⟨Nat.le_of_ble_eq_true rfl, Nat.le_of_ble_eq_true rfl⟩) (fun E' ce' q' v1 sc1 ar1 H locs hp h c1 c2 c3 => ?_) (fun r v1 sc1 ar1 H locs hp h => ?_)
  · skip
    have hE : (E' = xIA ∧ ((fun E u => (E = xIA ∧ u = (v, sc, ar) ∧ ¬ cdGood b1 h1 s1 d1) ∨ (E = xIS ∧ u = (v, sc, ar) ∧ cdGood b1 h1 s1 d1 ∧ 40 ≤ K))) xIA (v1, sc1, ar1)) ∨ (E' = xIS ∧ ((fun E u => (E = xIA ∧ u = (v, sc, ar) ∧ ¬ cdGood b1 h1 s1 d1) ∨ (E = xIS ∧ u = (v, sc, ar) ∧ cdGood b1 h1 s1 d1 ∧ 40 ≤ K))) xIS (v1, sc1, ar1)) := by
      rcases hp with g | g
      · have e := g.1; subst e; exact Or.inl ⟨rfl, Or.inl g⟩
      · have e := g.1; subst e; exact Or.inr ⟨rfl, Or.inr g⟩
    rcases hE with ⟨rfl, hp⟩ | ⟨rfl, hp⟩
    · skip
      refine xCt [] (⟨0, 14, 17, 13⟩ : ExceptionTableEntry) [(⟨0, 14, 21, 15⟩ : ExceptionTableEntry)] C hTb (fun _ q => absurd q List.not_mem_nil) (by decide) (by decide) ulA (C.2.2.2.2.2.2.2.2.2.1 _ (List.mem_of_getElem? (i := 3) rfl)) (by decide) c1 c2 c3 ?_
      refine lv_astore (lv' := [(6, .ref (q')), (0, .ref (zad z 0)), (1, .int (b1)), (2, .int (h1)), (3, .int (s1)), (4, .int (d1)), (5, .ref (zad z 53))]) hx hb dL_coding_17 hl (by decide) rfl (fun ls hl => ?_)
      refine lv_iconst (v := nI (1)) hx hb dL_coding_19 (by decide) ?_
      exact rI C hr hlk h dL_coding_20 (Nat.le_of_ble_eq_true rfl) (Nat.le_of_ble_eq_true rfl) (Or.inr (Or.inl ⟨rfl, hp⟩))
    · skip
      refine xCt [(⟨0, 14, 17, 13⟩ : ExceptionTableEntry)] (⟨0, 14, 21, 15⟩ : ExceptionTableEntry) [] C hTb (fun y q => by rw [List.mem_singleton.mp q]; exact ⟨by decide, xIA, ulA, C.2.2.2.2.2.1.2.2⟩) (by decide) (by decide) ulS (C.2.2.2.2.2.2.2.2.2.1 _ (List.mem_of_getElem? (i := 4) rfl)) (by decide) c1 c2 c3 ?_
      refine lv_astore (lv' := [(6, .ref (q')), (0, .ref (zad z 0)), (1, .int (b1)), (2, .int (h1)), (3, .int (s1)), (4, .int (d1)), (5, .ref (zad z 53))]) hx hb dL_coding_21 hl (by decide) rfl (fun ls hl => ?_)
      refine lv_iconst (v := nI (2)) hx hb dL_coding_23 (by decide) ?_
      exact rI C hr hlk h dL_coding_24 (Nat.le_of_ble_eq_true rfl) (Nat.le_of_ble_eq_true rfl) (Or.inr (Or.inr ⟨rfl, hp⟩))
  · skip
    refine lv_i2l (v := (r).toInt64) hx hb dL_coding_12 rfl ?_
    refine stJ C h dL_coding_13 (fun H locs h => ?_)
    refine lv_goto (tgt := 25) hx hb dL_coding_14 (by decide) ?_
    refine lv_iconst (v := nI (0)) hx hb dL_coding_25 (by decide) ?_
    exact rI C hr hlk h dL_coding_26 (Nat.le_of_ble_eq_true rfl) (Nat.le_of_ble_eq_true rfl) (Or.inl ⟨rfl, r, (v1, sc1, ar1), hp, rfl⟩)
theorem gv_L_17 : GoodIn uW (wsV RL 17 RX9 yX9_run (Cond.code yX9_run cX9_run 7 (some .int) :: uW)) := gI_V (uW_of (by decide +kernel) rfl) (uW_of (by decide +kernel) rfl) (uW_of (by decide +kernel) rfl) (uW_of (by decide +kernel) rfl) (uW_of (by decide +kernel) rfl)
theorem gv_L_17_n : okN yX9_run 3 := by decide +kernel
set_option maxHeartbeats 4000000 in
set_option maxRecDepth 100000 in
theorem w_run (l : Launch) (z : bZ) (v : bV) (sc : Nat → Int32) (ar : Nat → Nat → Int32) (hl0 : l.stackTraces = false) (K : Nat) (wt : Nat → Nat → Nat) (dp wa : Nat → Nat) (x y1 y2 : Int32) (hK : sc 0 = nI K) (hK4 : K ≤ 40) (hw : ∀ j, j < K → v.1 j = some (wa j)) (hWT : WT v wt dp wa K) : Met l yL_run (Cond.codeWith yL_run cL_run 6 (some .int) [(0, 12, 15, 13), (0, 12, 19, 15)] :: uW) { frames := 9, cells := 9, slots := 60, locals := 159 } (pC z v sc ar [.ref (zad z 0), .int (x), .int (y1), .int (y2), .ref (zad z 53)]) (qI z (fun k u => wP2 (fun r u => ∃ n j1 j2 q, (x = nI n ∧ n ≤ 400) ∧ (y1 = nI j1 ∧ j1 < K) ∧ (y2 = nI j2 ∧ j2 < K) ∧ K < 40 ∧ (1) + (max (dp j1) (dp j2)) ≤ 4 ∧ r = nI K ∧ q ∉ v.2.2.1 ∧ u = ((va_up v.1 K (some q), v.2.1, v.2.2.1 ++ [q], va_up v.2.2.2 q (.inr (5, [.int (nI ((1) + (max (dp j1) (dp j2)))), .int (nI (n)), .ref (wa j1), .ref (wa j2)]))), va_up sc 0 (nI (K + 1)), ar)) (fun E u => (E = xIA ∧ u = (v, sc, ar) ∧ ¬ (inR 0 400 x ∧ isW K y1 ∧ isW K y2)) ∨ (E = xIS ∧ u = (v, sc, ar) ∧ inR 0 400 x ∧ ∃ j1 j2, (y1 = nI j1 ∧ j1 < K) ∧ (y2 = nI j2 ∧ j2 < K) ∧ (40 ≤ K ∨ 4 < (1) + (max (dp j1) (dp j2))))) k u)) 9 60 (zA z) := by
  refine eH (by decide) (Nat.le_of_ble_eq_true rfl) ?_
  intro pP eE s mM below meth cC ls C hr hlk hTb h hl
  have hx := C.1.1
  have hb := C.1.2.1
  have hl : lv_has ls 6 [(0, .ref (zad z 0)), (1, .int (x)), (2, .int (y1)), (3, .int (y2)), (4, .ref (zad z 53))] := hl
  refine lv_aload hx hb dL_run_0 (lv_at hl 4 rfl) ?_
  refine lv_iconst (v := nI (0)) hx hb dL_run_2 (by decide) ?_
  refine lv_aload_n hx hb dL_run_3 rfl (lv_at hl 0 rfl) ?_
  refine lv_iload_n hx hb dL_run_4 rfl (lv_at hl 1 rfl) ?_
  refine lv_iload_n hx hb dL_run_5 rfl (lv_at hl 2 rfl) ?_
  refine lv_iload_n hx hb dL_run_6 rfl (lv_at hl 3 rfl) ?_
  refine xbI h (xrV (As := [.int (x), .int (y1), .int (y2)]) (rest := [.int (nI (0)), .ref (zad z 53)]) C h (k_run l z v sc ar hl0 K wt dp wa x y1 y2 hK hK4 hw hWT) gv_L_17 gv_L_17_n ⟨rfl, rfl⟩ (r_BM C h) rfl hl.1 rfl (Nat.le_of_ble_eq_true rfl) dL_run_7 ⟨Nat.le_of_ble_eq_true rfl, Nat.le_of_ble_eq_true rfl⟩ ⟨Nat.le_of_ble_eq_true rfl, Nat.le_of_ble_eq_true rfl⟩) (fun E' ce' q' v1 sc1 ar1 H locs hp h c1 c2 c3 => ?_) (fun r v1 sc1 ar1 H locs hp h => ?_)
  · skip
    have hE : (E' = xIA ∧ ((fun E u => (E = xIA ∧ u = (v, sc, ar) ∧ ¬ (inR 0 400 x ∧ isW K y1 ∧ isW K y2)) ∨ (E = xIS ∧ u = (v, sc, ar) ∧ inR 0 400 x ∧ ∃ j1 j2, (y1 = nI j1 ∧ j1 < K) ∧ (y2 = nI j2 ∧ j2 < K) ∧ (40 ≤ K ∨ 4 < (1) + (max (dp j1) (dp j2)))))) xIA (v1, sc1, ar1)) ∨ (E' = xIS ∧ ((fun E u => (E = xIA ∧ u = (v, sc, ar) ∧ ¬ (inR 0 400 x ∧ isW K y1 ∧ isW K y2)) ∨ (E = xIS ∧ u = (v, sc, ar) ∧ inR 0 400 x ∧ ∃ j1 j2, (y1 = nI j1 ∧ j1 < K) ∧ (y2 = nI j2 ∧ j2 < K) ∧ (40 ≤ K ∨ 4 < (1) + (max (dp j1) (dp j2)))))) xIS (v1, sc1, ar1)) := by
      rcases hp with g | g
      · have e := g.1; subst e; exact Or.inl ⟨rfl, Or.inl g⟩
      · have e := g.1; subst e; exact Or.inr ⟨rfl, Or.inr g⟩
    rcases hE with ⟨rfl, hp⟩ | ⟨rfl, hp⟩
    · skip
      refine xCt [] (⟨0, 12, 15, 13⟩ : ExceptionTableEntry) [(⟨0, 12, 19, 15⟩ : ExceptionTableEntry)] C hTb (fun _ q => absurd q List.not_mem_nil) (by decide) (by decide) ulA (C.2.2.2.2.2.2.2.2.2.1 _ (List.mem_of_getElem? (i := 3) rfl)) (by decide) c1 c2 c3 ?_
      refine lv_astore (lv' := [(5, .ref (q')), (0, .ref (zad z 0)), (1, .int (x)), (2, .int (y1)), (3, .int (y2)), (4, .ref (zad z 53))]) hx hb dL_run_15 hl (by decide) rfl (fun ls hl => ?_)
      refine lv_iconst (v := nI (1)) hx hb dL_run_17 (by decide) ?_
      exact rI C hr hlk h dL_run_18 (Nat.le_of_ble_eq_true rfl) (Nat.le_of_ble_eq_true rfl) (Or.inr (Or.inl ⟨rfl, hp⟩))
    · skip
      refine xCt [(⟨0, 12, 15, 13⟩ : ExceptionTableEntry)] (⟨0, 12, 19, 15⟩ : ExceptionTableEntry) [] C hTb (fun y q => by rw [List.mem_singleton.mp q]; exact ⟨by decide, xIA, ulA, C.2.2.2.2.2.1.2.2⟩) (by decide) (by decide) ulS (C.2.2.2.2.2.2.2.2.2.1 _ (List.mem_of_getElem? (i := 4) rfl)) (by decide) c1 c2 c3 ?_
      refine lv_astore (lv' := [(5, .ref (q')), (0, .ref (zad z 0)), (1, .int (x)), (2, .int (y1)), (3, .int (y2)), (4, .ref (zad z 53))]) hx hb dL_run_19 hl (by decide) rfl (fun ls hl => ?_)
      refine lv_iconst (v := nI (2)) hx hb dL_run_21 (by decide) ?_
      exact rI C hr hlk h dL_run_22 (Nat.le_of_ble_eq_true rfl) (Nat.le_of_ble_eq_true rfl) (Or.inr (Or.inr ⟨rfl, hp⟩))
  · skip
    refine lv_i2l (v := (r).toInt64) hx hb dL_run_10 rfl ?_
    refine stJ C h dL_run_11 (fun H locs h => ?_)
    refine lv_goto (tgt := 23) hx hb dL_run_12 (by decide) ?_
    refine lv_iconst (v := nI (0)) hx hb dL_run_23 (by decide) ?_
    exact rI C hr hlk h dL_run_24 (Nat.le_of_ble_eq_true rfl) (Nat.le_of_ble_eq_true rfl) (Or.inl ⟨rfl, r, (v1, sc1, ar1), hp, rfl⟩)
theorem gv_L_21 : GoodIn uW (wsV RL 21 RX9 yX9_popular (Cond.code yX9_popular cX9_popular 9 (some .int) :: uW)) := gI_V (uW_of (by decide +kernel) rfl) (uW_of (by decide +kernel) rfl) (uW_of (by decide +kernel) rfl) (uW_of (by decide +kernel) rfl) (uW_of (by decide +kernel) rfl)
theorem gv_L_21_n : okN yX9_popular 4 := by decide +kernel
set_option maxHeartbeats 4000000 in
set_option maxRecDepth 100000 in
theorem w_popular (l : Launch) (z : bZ) (v : bV) (sc : Nat → Int32) (ar : Nat → Nat → Int32) (hl0 : l.stackTraces = false) (K : Nat) (wt : Nat → Nat → Nat) (dp wa : Nat → Nat) (x y1 y2 y3 : Int32) (hK : sc 0 = nI K) (hK4 : K ≤ 40) (hw : ∀ j, j < K → v.1 j = some (wa j)) (hWT : WT v wt dp wa K) : Met l yL_popular (Cond.codeWith yL_popular cL_popular 7 (some .int) [(0, 14, 17, 13), (0, 14, 21, 15)] :: uW) { frames := 9, cells := 9, slots := 60, locals := 161 } (pC z v sc ar [.ref (zad z 0), .int (x), .int (y1), .int (y2), .int (y3), .ref (zad z 53)]) (qI z (fun k u => wP2 (fun r u => ∃ n j1 j2 j3 q, (x = nI n ∧ 1 ≤ n ∧ n ≤ 50) ∧ (y1 = nI j1 ∧ j1 < K) ∧ (y2 = nI j2 ∧ j2 < K) ∧ (y3 = nI j3 ∧ j3 < K) ∧ K < 40 ∧ (1) + (max (dp j1) (max (dp j2) (dp j3))) ≤ 4 ∧ r = nI K ∧ q ∉ v.2.2.1 ∧ u = ((va_up v.1 K (some q), v.2.1, v.2.2.1 ++ [q], va_up v.2.2.2 q (.inr (4, [.int (nI ((1) + (max (dp j1) (max (dp j2) (dp j3))))), .int (nI (n)), .ref (wa j1), .ref (wa j2), .ref (wa j3)]))), va_up sc 0 (nI (K + 1)), ar)) (fun E u => (E = xIA ∧ u = (v, sc, ar) ∧ ¬ (inR 1 50 x ∧ isW K y1 ∧ isW K y2 ∧ isW K y3)) ∨ (E = xIS ∧ u = (v, sc, ar) ∧ inR 1 50 x ∧ ∃ j1 j2 j3, (y1 = nI j1 ∧ j1 < K) ∧ (y2 = nI j2 ∧ j2 < K) ∧ (y3 = nI j3 ∧ j3 < K) ∧ (40 ≤ K ∨ 4 < (1) + (max (dp j1) (max (dp j2) (dp j3)))))) k u)) 9 60 (zA z) := by
  refine eH (by decide) (Nat.le_of_ble_eq_true rfl) ?_
  intro pP eE s mM below meth cC ls C hr hlk hTb h hl
  have hx := C.1.1
  have hb := C.1.2.1
  have hl : lv_has ls 7 [(0, .ref (zad z 0)), (1, .int (x)), (2, .int (y1)), (3, .int (y2)), (4, .int (y3)), (5, .ref (zad z 53))] := hl
  refine lv_aload hx hb dL_popular_0 (lv_at hl 5 rfl) ?_
  refine lv_iconst (v := nI (0)) hx hb dL_popular_2 (by decide) ?_
  refine lv_aload_n hx hb dL_popular_3 rfl (lv_at hl 0 rfl) ?_
  refine lv_iload_n hx hb dL_popular_4 rfl (lv_at hl 1 rfl) ?_
  refine lv_iload_n hx hb dL_popular_5 rfl (lv_at hl 2 rfl) ?_
  refine lv_iload_n hx hb dL_popular_6 rfl (lv_at hl 3 rfl) ?_
  refine lv_iload hx hb dL_popular_7 (lv_at hl 4 rfl) ?_
  refine xbI h (xrV (As := [.int (x), .int (y1), .int (y2), .int (y3)]) (rest := [.int (nI (0)), .ref (zad z 53)]) C h (k_popular l z v sc ar hl0 K wt dp wa x y1 y2 y3 hK hK4 hw hWT) gv_L_21 gv_L_21_n ⟨rfl, rfl⟩ (r_BM C h) rfl hl.1 rfl (Nat.le_of_ble_eq_true rfl) dL_popular_9 ⟨Nat.le_of_ble_eq_true rfl, Nat.le_of_ble_eq_true rfl⟩ ⟨Nat.le_of_ble_eq_true rfl, Nat.le_of_ble_eq_true rfl⟩) (fun E' ce' q' v1 sc1 ar1 H locs hp h c1 c2 c3 => ?_) (fun r v1 sc1 ar1 H locs hp h => ?_)
  · skip
    have hE : (E' = xIA ∧ ((fun E u => (E = xIA ∧ u = (v, sc, ar) ∧ ¬ (inR 1 50 x ∧ isW K y1 ∧ isW K y2 ∧ isW K y3)) ∨ (E = xIS ∧ u = (v, sc, ar) ∧ inR 1 50 x ∧ ∃ j1 j2 j3, (y1 = nI j1 ∧ j1 < K) ∧ (y2 = nI j2 ∧ j2 < K) ∧ (y3 = nI j3 ∧ j3 < K) ∧ (40 ≤ K ∨ 4 < (1) + (max (dp j1) (max (dp j2) (dp j3))))))) xIA (v1, sc1, ar1)) ∨ (E' = xIS ∧ ((fun E u => (E = xIA ∧ u = (v, sc, ar) ∧ ¬ (inR 1 50 x ∧ isW K y1 ∧ isW K y2 ∧ isW K y3)) ∨ (E = xIS ∧ u = (v, sc, ar) ∧ inR 1 50 x ∧ ∃ j1 j2 j3, (y1 = nI j1 ∧ j1 < K) ∧ (y2 = nI j2 ∧ j2 < K) ∧ (y3 = nI j3 ∧ j3 < K) ∧ (40 ≤ K ∨ 4 < (1) + (max (dp j1) (max (dp j2) (dp j3))))))) xIS (v1, sc1, ar1)) := by
      rcases hp with g | g
      · have e := g.1; subst e; exact Or.inl ⟨rfl, Or.inl g⟩
      · have e := g.1; subst e; exact Or.inr ⟨rfl, Or.inr g⟩
    rcases hE with ⟨rfl, hp⟩ | ⟨rfl, hp⟩
    · skip
      refine xCt [] (⟨0, 14, 17, 13⟩ : ExceptionTableEntry) [(⟨0, 14, 21, 15⟩ : ExceptionTableEntry)] C hTb (fun _ q => absurd q List.not_mem_nil) (by decide) (by decide) ulA (C.2.2.2.2.2.2.2.2.2.1 _ (List.mem_of_getElem? (i := 3) rfl)) (by decide) c1 c2 c3 ?_
      refine lv_astore (lv' := [(6, .ref (q')), (0, .ref (zad z 0)), (1, .int (x)), (2, .int (y1)), (3, .int (y2)), (4, .int (y3)), (5, .ref (zad z 53))]) hx hb dL_popular_17 hl (by decide) rfl (fun ls hl => ?_)
      refine lv_iconst (v := nI (1)) hx hb dL_popular_19 (by decide) ?_
      exact rI C hr hlk h dL_popular_20 (Nat.le_of_ble_eq_true rfl) (Nat.le_of_ble_eq_true rfl) (Or.inr (Or.inl ⟨rfl, hp⟩))
    · skip
      refine xCt [(⟨0, 14, 17, 13⟩ : ExceptionTableEntry)] (⟨0, 14, 21, 15⟩ : ExceptionTableEntry) [] C hTb (fun y q => by rw [List.mem_singleton.mp q]; exact ⟨by decide, xIA, ulA, C.2.2.2.2.2.1.2.2⟩) (by decide) (by decide) ulS (C.2.2.2.2.2.2.2.2.2.1 _ (List.mem_of_getElem? (i := 4) rfl)) (by decide) c1 c2 c3 ?_
      refine lv_astore (lv' := [(6, .ref (q')), (0, .ref (zad z 0)), (1, .int (x)), (2, .int (y1)), (3, .int (y2)), (4, .int (y3)), (5, .ref (zad z 53))]) hx hb dL_popular_21 hl (by decide) rfl (fun ls hl => ?_)
      refine lv_iconst (v := nI (2)) hx hb dL_popular_23 (by decide) ?_
      exact rI C hr hlk h dL_popular_24 (Nat.le_of_ble_eq_true rfl) (Nat.le_of_ble_eq_true rfl) (Or.inr (Or.inr ⟨rfl, hp⟩))
  · skip
    refine lv_i2l (v := (r).toInt64) hx hb dL_popular_12 rfl ?_
    refine stJ C h dL_popular_13 (fun H locs h => ?_)
    refine lv_goto (tgt := 25) hx hb dL_popular_14 (by decide) ?_
    refine lv_iconst (v := nI (0)) hx hb dL_popular_25 (by decide) ?_
    exact rI C hr hlk h dL_popular_26 (Nat.le_of_ble_eq_true rfl) (Nat.le_of_ble_eq_true rfl) (Or.inl ⟨rfl, r, (v1, sc1, ar1), hp, rfl⟩)
theorem gv_L_24 : GoodIn uW (wsV RL 24 RX9 yX9_number (Cond.code yX9_number cX9_number 2 (some .int) :: uW)) := gI_V (uW_of (by decide +kernel) rfl) (uW_of (by decide +kernel) rfl) (uW_of (by decide +kernel) rfl) (uW_of (by decide +kernel) rfl) (uW_of (by decide +kernel) rfl)
theorem gv_L_24_n : okN yX9_number 1 := by decide +kernel
set_option maxHeartbeats 4000000 in
set_option maxRecDepth 100000 in
theorem w_number (l : Launch) (z : bZ) (v : bV) (sc : Nat → Int32) (ar : Nat → Nat → Int32) (hl0 : l.stackTraces = false) (N : Nat) (x : Int32) (hN : sc 1 = nI N) (hN4 : N ≤ 400) : Met l yL_number (Cond.codeWith yL_number cL_number 4 (some .int) [(0, 9, 12, 15)] :: uW) { frames := 7, cells := 1, slots := 6, locals := 111 } (pC z v sc ar [.ref (zad z 0), .int (x), .ref (zad z 53)]) (qI z (fun k u => wP1 (fun r u => N < 400 ∧ r = nI (N + 1) ∧ u = (v, va_up sc 1 (nI (N + 1)), va_up ar 12 (upd (ar 12) N x))) (fun E u => E = xIS ∧ u = (v, sc, ar) ∧ N = 400) k u)) 1 6 (zA z) := by
  refine eH (by decide) (Nat.le_of_ble_eq_true rfl) ?_
  intro pP eE s mM below meth cC ls C hr hlk hTb h hl
  have hx := C.1.1
  have hb := C.1.2.1
  have hl : lv_has ls 4 [(0, .ref (zad z 0)), (1, .int (x)), (2, .ref (zad z 53))] := hl
  refine lv_aload_n hx hb dL_number_0 rfl (lv_at hl 2 rfl) ?_
  refine lv_iconst (v := nI (0)) hx hb dL_number_1 (by decide) ?_
  refine lv_aload_n hx hb dL_number_2 rfl (lv_at hl 0 rfl) ?_
  refine lv_iload_n hx hb dL_number_3 rfl (lv_at hl 1 rfl) ?_
  refine xbI h (xrV (As := [.int (x)]) (rest := [.int (nI (0)), .ref (zad z 53)]) C h (k_number l z v sc ar hl0 N x hN hN4) gv_L_24 gv_L_24_n ⟨rfl, rfl⟩ (r_BM C h) rfl hl.1 rfl (Nat.le_of_ble_eq_true rfl) dL_number_4 ⟨Nat.le_of_ble_eq_true rfl, Nat.le_of_ble_eq_true rfl⟩ ⟨Nat.le_of_ble_eq_true rfl, Nat.le_of_ble_eq_true rfl⟩) (fun E' ce' q' v1 sc1 ar1 H locs hp h c1 c2 c3 => ?_) (fun r v1 sc1 ar1 H locs hp h => ?_)
  · skip
    have hE : E' = xIS := hp.1
    subst hE
    refine xCt [] (⟨0, 9, 12, 15⟩ : ExceptionTableEntry) [] C hTb (fun _ q => absurd q List.not_mem_nil) (by decide) (by decide) ulS (C.2.2.2.2.2.2.2.2.2.1 _ (List.mem_of_getElem? (i := 4) rfl)) (by decide) c1 c2 c3 ?_
    refine lv_astore_n (lv' := [(3, .ref (q')), (0, .ref (zad z 0)), (1, .int (x)), (2, .ref (zad z 53))]) hx hb dL_number_12 rfl hl (by decide) rfl (fun ls hl => ?_)
    refine lv_iconst (v := nI (1)) hx hb dL_number_13 (by decide) ?_
    exact rI C hr hlk h dL_number_14 (Nat.le_of_ble_eq_true rfl) (Nat.le_of_ble_eq_true rfl) (Or.inr ⟨rfl, xIS, hp⟩)
  · skip
    refine lv_i2l (v := (r).toInt64) hx hb dL_number_7 rfl ?_
    refine stJ C h dL_number_8 (fun H locs h => ?_)
    refine lv_goto (tgt := 15) hx hb dL_number_9 (by decide) ?_
    refine lv_iconst (v := nI (0)) hx hb dL_number_15 (by decide) ?_
    exact rI C hr hlk h dL_number_16 (Nat.le_of_ble_eq_true rfl) (Nat.le_of_ble_eq_true rfl) (Or.inl ⟨rfl, r, (v1, sc1, ar1), hp, rfl⟩)
theorem gv_L_28 : GoodIn uW (wsV RL 28 RX9 yX9_cost (Cond.code yX9_cost cX9_cost 2 (some .int) :: uW)) := gI_V (uW_of (by decide +kernel) rfl) (uW_of (by decide +kernel) rfl) (uW_of (by decide +kernel) rfl) (uW_of (by decide +kernel) rfl) (uW_of (by decide +kernel) rfl)
theorem gv_L_28_n : okN yX9_cost 1 := by decide +kernel
set_option maxHeartbeats 4000000 in
set_option maxRecDepth 100000 in
theorem w_cost (l : Launch) (z : bZ) (v : bV) (sc : Nat → Int32) (ar : Nat → Nat → Int32) (hl0 : l.stackTraces = false) (K N n : Nat) (wt : Nat → Nat → Nat) (dp wa : Nat → Nat) (y : Int32) (hK : sc 0 = nI K) (hK4 : K ≤ 40) (hw : ∀ j, j < K → v.1 j = some (wa j)) (hWT : WT v wt dp wa K) (hn : sc 3 = nI n) (hn8 : n ≤ 8000) (hN : sc 1 = nI N) (hN4 : N ≤ 400) : Met l yL_cost (Cond.codeWith yL_cost cL_cost 4 (some .int) [(0, 9, 12, 13)] :: uW) { frames := 27, cells := 1, slots := 6, locals := 409 } (pC z v sc ar [.ref (zad z 0), .int (y), .ref (zad z 53)]) (qI z (fun k u => wP1 (fun r u => ∃ j, j < K ∧ y = nI j ∧ dR n v sc ar (WR wt dp j (rowL (ar 12) 0 N)) r u) (fun E u => E = xIA ∧ u = (v, sc, ar) ∧ ¬ isW K y) k u)) 1 6 (zA z) := by
  refine eH (by decide) (Nat.le_of_ble_eq_true rfl) ?_
  intro pP eE s mM below meth cC ls C hr hlk hTb h hl
  have hx := C.1.1
  have hb := C.1.2.1
  have hl : lv_has ls 4 [(0, .ref (zad z 0)), (1, .int (y)), (2, .ref (zad z 53))] := hl
  refine lv_aload_n hx hb dL_cost_0 rfl (lv_at hl 2 rfl) ?_
  refine lv_iconst (v := nI (0)) hx hb dL_cost_1 (by decide) ?_
  refine lv_aload_n hx hb dL_cost_2 rfl (lv_at hl 0 rfl) ?_
  refine lv_iload_n hx hb dL_cost_3 rfl (lv_at hl 1 rfl) ?_
  refine xbI h (xrV (As := [.int (y)]) (rest := [.int (nI (0)), .ref (zad z 53)]) C h (k_cost l z v sc ar hl0 K N n wt dp wa y hK hK4 hw hWT hn hn8 hN hN4) gv_L_28 gv_L_28_n ⟨rfl, rfl⟩ (r_BM C h) rfl hl.1 rfl (Nat.le_of_ble_eq_true rfl) dL_cost_4 ⟨Nat.le_of_ble_eq_true rfl, Nat.le_of_ble_eq_true rfl⟩ ⟨Nat.le_of_ble_eq_true rfl, Nat.le_of_ble_eq_true rfl⟩) (fun E' ce' q' v1 sc1 ar1 H locs hp h c1 c2 c3 => ?_) (fun r v1 sc1 ar1 H locs hp h => ?_)
  · skip
    have hE : E' = xIA := hp.1
    subst hE
    refine xCt [] (⟨0, 9, 12, 13⟩ : ExceptionTableEntry) [] C hTb (fun _ q => absurd q List.not_mem_nil) (by decide) (by decide) ulA (C.2.2.2.2.2.2.2.2.2.1 _ (List.mem_of_getElem? (i := 3) rfl)) (by decide) c1 c2 c3 ?_
    refine lv_astore_n (lv' := [(3, .ref (q')), (0, .ref (zad z 0)), (1, .int (y)), (2, .ref (zad z 53))]) hx hb dL_cost_12 rfl hl (by decide) rfl (fun ls hl => ?_)
    refine lv_iconst (v := nI (1)) hx hb dL_cost_13 (by decide) ?_
    exact rI C hr hlk h dL_cost_14 (Nat.le_of_ble_eq_true rfl) (Nat.le_of_ble_eq_true rfl) (Or.inr ⟨rfl, xIA, hp⟩)
  · skip
    refine lv_i2l (v := (r).toInt64) hx hb dL_cost_7 rfl ?_
    refine stJ C h dL_cost_8 (fun H locs h => ?_)
    refine lv_goto (tgt := 15) hx hb dL_cost_9 (by decide) ?_
    refine lv_iconst (v := nI (0)) hx hb dL_cost_15 (by decide) ?_
    exact rI C hr hlk h dL_cost_16 (Nat.le_of_ble_eq_true rfl) (Nat.le_of_ble_eq_true rfl) (Or.inl ⟨rfl, r, (v1, sc1, ar1), hp, rfl⟩)
theorem gv_L_31 : GoodIn uW (wsV RL 31 RX9 yX9_pack (Cond.code yX9_pack cX9_pack 3 (some .int) :: uW)) := gI_V (uW_of (by decide +kernel) rfl) (uW_of (by decide +kernel) rfl) (uW_of (by decide +kernel) rfl) (uW_of (by decide +kernel) rfl) (uW_of (by decide +kernel) rfl)
theorem gv_L_31_n : okN yX9_pack 1 := by decide +kernel
set_option maxHeartbeats 4000000 in
set_option maxRecDepth 100000 in
theorem w_pack (l : Launch) (z : bZ) (v : bV) (sc : Nat → Int32) (ar : Nat → Nat → Int32) (hl0 : l.stackTraces = false) (K N n : Nat) (wt : Nat → Nat → Nat) (dp wa : Nat → Nat) (y : Int32) (hK : sc 0 = nI K) (hK4 : K ≤ 40) (hw : ∀ j, j < K → v.1 j = some (wa j)) (hWT : WT v wt dp wa K) (hn : sc 3 = nI n) (hn8 : n ≤ 8000) (hN : sc 1 = nI N) (hN4 : N ≤ 400) : Met l yL_pack (Cond.codeWith yL_pack cL_pack 4 (some .int) [(0, 9, 12, 13), (0, 9, 15, 15)] :: uW) { frames := 27, cells := 2, slots := 12, locals := 410 } (pC z v sc ar [.ref (zad z 0), .int (y), .ref (zad z 53)]) (qI z (fun k u => wP2 (fun r u => ∃ j, j < K ∧ y = nI j ∧ ((∃ sc1 ar1, u = (v, sc1, ar1) ∧ dX n sc ar sc1 ar1 ∧ r = -1 ∧ WR wt dp j (rowL (ar 12) 0 N) = none) ∨ (∃ sc1 ar1 bs, u = (v, va_up (va_up sc1 3 (nI (n + bs.length))) 5 (nI 0), ar1) ∧ dX n sc ar sc1 ar1 ∧ ar1 11 = wrB (ar 11) n bs ∧ n + bs.length ≤ 8000 ∧ r = nI bs.length ∧ WR wt dp j (rowL (ar 12) 0 N) = some bs))) (fun E u => (E = xIA ∧ u = (v, sc, ar) ∧ ¬ isW K y) ∨ (E = xIS ∧ ∃ j, j < K ∧ y = nI j ∧ ∃ sc1 ar1 bs, u = (v, sc1, ar1) ∧ dX n sc ar sc1 ar1 ∧ 8000 < n + bs.length ∧ WR wt dp j (rowL (ar 12) 0 N) = some bs)) k u)) 2 12 (zA z) := by
  refine eH (by decide) (Nat.le_of_ble_eq_true rfl) ?_
  intro pP eE s mM below meth cC ls C hr hlk hTb h hl
  have hx := C.1.1
  have hb := C.1.2.1
  have hl : lv_has ls 4 [(0, .ref (zad z 0)), (1, .int (y)), (2, .ref (zad z 53))] := hl
  refine lv_aload_n hx hb dL_pack_0 rfl (lv_at hl 2 rfl) ?_
  refine lv_iconst (v := nI (0)) hx hb dL_pack_1 (by decide) ?_
  refine lv_aload_n hx hb dL_pack_2 rfl (lv_at hl 0 rfl) ?_
  refine lv_iload_n hx hb dL_pack_3 rfl (lv_at hl 1 rfl) ?_
  refine xbI h (xrV (As := [.int (y)]) (rest := [.int (nI (0)), .ref (zad z 53)]) C h (k_pack l z v sc ar hl0 K N n wt dp wa y hK hK4 hw hWT hn hn8 hN hN4) gv_L_31 gv_L_31_n ⟨rfl, rfl⟩ (r_BM C h) rfl hl.1 rfl (Nat.le_of_ble_eq_true rfl) dL_pack_4 ⟨Nat.le_of_ble_eq_true rfl, Nat.le_of_ble_eq_true rfl⟩ ⟨Nat.le_of_ble_eq_true rfl, Nat.le_of_ble_eq_true rfl⟩) (fun E' ce' q' v1 sc1 ar1 H locs hp h c1 c2 c3 => ?_) (fun r v1 sc1 ar1 H locs hp h => ?_)
  · skip
    have hE : (E' = xIA ∧ ((fun E u => (E = xIA ∧ u = (v, sc, ar) ∧ ¬ isW K y) ∨ (E = xIS ∧ ∃ j, j < K ∧ y = nI j ∧ ∃ sc1 ar1 bs, u = (v, sc1, ar1) ∧ dX n sc ar sc1 ar1 ∧ 8000 < n + bs.length ∧ WR wt dp j (rowL (ar 12) 0 N) = some bs))) xIA (v1, sc1, ar1)) ∨ (E' = xIS ∧ ((fun E u => (E = xIA ∧ u = (v, sc, ar) ∧ ¬ isW K y) ∨ (E = xIS ∧ ∃ j, j < K ∧ y = nI j ∧ ∃ sc1 ar1 bs, u = (v, sc1, ar1) ∧ dX n sc ar sc1 ar1 ∧ 8000 < n + bs.length ∧ WR wt dp j (rowL (ar 12) 0 N) = some bs))) xIS (v1, sc1, ar1)) := by
      rcases hp with g | g
      · have e := g.1; subst e; exact Or.inl ⟨rfl, Or.inl g⟩
      · have e := g.1; subst e; exact Or.inr ⟨rfl, Or.inr g⟩
    rcases hE with ⟨rfl, hp⟩ | ⟨rfl, hp⟩
    · skip
      refine xCt [] (⟨0, 9, 12, 13⟩ : ExceptionTableEntry) [(⟨0, 9, 15, 15⟩ : ExceptionTableEntry)] C hTb (fun _ q => absurd q List.not_mem_nil) (by decide) (by decide) ulA (C.2.2.2.2.2.2.2.2.2.1 _ (List.mem_of_getElem? (i := 3) rfl)) (by decide) c1 c2 c3 ?_
      refine lv_astore_n (lv' := [(3, .ref (q')), (0, .ref (zad z 0)), (1, .int (y)), (2, .ref (zad z 53))]) hx hb dL_pack_12 rfl hl (by decide) rfl (fun ls hl => ?_)
      refine lv_iconst (v := nI (1)) hx hb dL_pack_13 (by decide) ?_
      exact rI C hr hlk h dL_pack_14 (Nat.le_of_ble_eq_true rfl) (Nat.le_of_ble_eq_true rfl) (Or.inr (Or.inl ⟨rfl, hp⟩))
    · skip
      refine xCt [(⟨0, 9, 12, 13⟩ : ExceptionTableEntry)] (⟨0, 9, 15, 15⟩ : ExceptionTableEntry) [] C hTb (fun y q => by rw [List.mem_singleton.mp q]; exact ⟨by decide, xIA, ulA, C.2.2.2.2.2.1.2.2⟩) (by decide) (by decide) ulS (C.2.2.2.2.2.2.2.2.2.1 _ (List.mem_of_getElem? (i := 4) rfl)) (by decide) c1 c2 c3 ?_
      refine lv_astore_n (lv' := [(3, .ref (q')), (0, .ref (zad z 0)), (1, .int (y)), (2, .ref (zad z 53))]) hx hb dL_pack_15 rfl hl (by decide) rfl (fun ls hl => ?_)
      refine lv_iconst (v := nI (2)) hx hb dL_pack_16 (by decide) ?_
      exact rI C hr hlk h dL_pack_17 (Nat.le_of_ble_eq_true rfl) (Nat.le_of_ble_eq_true rfl) (Or.inr (Or.inr ⟨rfl, hp⟩))
  · skip
    refine lv_i2l (v := (r).toInt64) hx hb dL_pack_7 rfl ?_
    refine stJ C h dL_pack_8 (fun H locs h => ?_)
    refine lv_goto (tgt := 18) hx hb dL_pack_9 (by decide) ?_
    refine lv_iconst (v := nI (0)) hx hb dL_pack_18 (by decide) ?_
    exact rI C hr hlk h dL_pack_19 (Nat.le_of_ble_eq_true rfl) (Nat.le_of_ble_eq_true rfl) (Or.inl ⟨rfl, r, (v1, sc1, ar1), hp, rfl⟩)
theorem gv_L_34 : GoodIn uW (wsV RL 34 RX9 yX9_unpack (Cond.code yX9_unpack cX9_unpack 5 (some .int) :: uW)) := gI_V (uW_of (by decide +kernel) rfl) (uW_of (by decide +kernel) rfl) (uW_of (by decide +kernel) rfl) (uW_of (by decide +kernel) rfl) (uW_of (by decide +kernel) rfl)
theorem gv_L_34_n : okN yX9_unpack 2 := by decide +kernel
set_option maxHeartbeats 4000000 in
set_option maxRecDepth 100000 in
theorem w_unpack (l : Launch) (z : bZ) (v : bV) (sc : Nat → Int32) (ar : Nat → Nat → Int32) (hl0 : l.stackTraces = false) (K N n rf : Nat) (wt : Nat → Nat → Nat) (dp wa : Nat → Nat) (y x : Int32) (hK : sc 0 = nI K) (hK4 : K ≤ 40) (hw : ∀ j, j < K → v.1 j = some (wa j)) (hWT : WT v wt dp wa K) (hn : sc 3 = nI n) (hn8 : n ≤ 8000) (hN : sc 1 = nI N) (hN4 : N ≤ 400) (hf : sc 4 = nI rf) (hrf : rf ≤ n) : Met l yL_unpack (Cond.codeWith yL_unpack cL_unpack 5 (some .int) [(0, 10, 13, 13)] :: uW) { frames := 26, cells := 2, slots := 12, locals := 394 } (pC z v sc ar [.ref (zad z 0), .int (y), .int (x), .ref (zad z 53)]) (qI z (fun k u => wP1 (fun r u => ∃ j c0, j < K ∧ y = nI j ∧ c0 ≤ 400 ∧ x = nI c0 ∧ uO v sc ar n rf c0 (RD wt dp (bN (ar 11)) n j c0 rf) r u) (fun E u => E = xIA ∧ u = (v, sc, ar) ∧ ¬ (isW K y ∧ inR 0 400 x)) k u)) 2 12 (zA z) := by
  refine eH (by decide) (Nat.le_of_ble_eq_true rfl) ?_
  intro pP eE s mM below meth cC ls C hr hlk hTb h hl
  have hx := C.1.1
  have hb := C.1.2.1
  have hl : lv_has ls 5 [(0, .ref (zad z 0)), (1, .int (y)), (2, .int (x)), (3, .ref (zad z 53))] := hl
  refine lv_aload_n hx hb dL_unpack_0 rfl (lv_at hl 3 rfl) ?_
  refine lv_iconst (v := nI (0)) hx hb dL_unpack_1 (by decide) ?_
  refine lv_aload_n hx hb dL_unpack_2 rfl (lv_at hl 0 rfl) ?_
  refine lv_iload_n hx hb dL_unpack_3 rfl (lv_at hl 1 rfl) ?_
  refine lv_iload_n hx hb dL_unpack_4 rfl (lv_at hl 2 rfl) ?_
  refine xbI h (xrV (As := [.int (y), .int (x)]) (rest := [.int (nI (0)), .ref (zad z 53)]) C h (k_unpack l z v sc ar hl0 K N n rf wt dp wa y x hK hK4 hw hWT hn hn8 hN hN4 hf hrf) gv_L_34 gv_L_34_n ⟨rfl, rfl⟩ (r_BM C h) rfl hl.1 rfl (Nat.le_of_ble_eq_true rfl) dL_unpack_5 ⟨Nat.le_of_ble_eq_true rfl, Nat.le_of_ble_eq_true rfl⟩ ⟨Nat.le_of_ble_eq_true rfl, Nat.le_of_ble_eq_true rfl⟩) (fun E' ce' q' v1 sc1 ar1 H locs hp h c1 c2 c3 => ?_) (fun r v1 sc1 ar1 H locs hp h => ?_)
  · skip
    have hE : E' = xIA := hp.1
    subst hE
    refine xCt [] (⟨0, 10, 13, 13⟩ : ExceptionTableEntry) [] C hTb (fun _ q => absurd q List.not_mem_nil) (by decide) (by decide) ulA (C.2.2.2.2.2.2.2.2.2.1 _ (List.mem_of_getElem? (i := 3) rfl)) (by decide) c1 c2 c3 ?_
    refine lv_astore (lv' := [(4, .ref (q')), (0, .ref (zad z 0)), (1, .int (y)), (2, .int (x)), (3, .ref (zad z 53))]) hx hb dL_unpack_13 hl (by decide) rfl (fun ls hl => ?_)
    refine lv_iconst (v := nI (1)) hx hb dL_unpack_15 (by decide) ?_
    exact rI C hr hlk h dL_unpack_16 (Nat.le_of_ble_eq_true rfl) (Nat.le_of_ble_eq_true rfl) (Or.inr ⟨rfl, xIA, hp⟩)
  · skip
    refine lv_i2l (v := (r).toInt64) hx hb dL_unpack_8 rfl ?_
    refine stJ C h dL_unpack_9 (fun H locs h => ?_)
    refine lv_goto (tgt := 17) hx hb dL_unpack_10 (by decide) ?_
    refine lv_iconst (v := nI (0)) hx hb dL_unpack_17 (by decide) ?_
    exact rI C hr hlk h dL_unpack_18 (Nat.le_of_ble_eq_true rfl) (Nat.le_of_ble_eq_true rfl) (Or.inl ⟨rfl, r, (v1, sc1, ar1), hp, rfl⟩)
theorem gv_L_38 : GoodIn uW (wsV RL 38 RX9 yX9_best (Cond.code yX9_best cX9_best 7 (some .int) :: uW)) := gI_V (uW_of (by decide +kernel) rfl) (uW_of (by decide +kernel) rfl) (uW_of (by decide +kernel) rfl) (uW_of (by decide +kernel) rfl) (uW_of (by decide +kernel) rfl)
theorem gv_L_38_n : okN yX9_best 2 := by decide +kernel
set_option maxHeartbeats 4000000 in
set_option maxRecDepth 100000 in
theorem w_best (l : Launch) (z : bZ) (v : bV) (sc : Nat → Int32) (ar : Nat → Nat → Int32) (hl0 : l.stackTraces = false) (K N n : Nat) (wt : Nat → Nat → Nat) (dp wa : Nat → Nat) (y1 y2 : Int32) (hK : sc 0 = nI K) (hK4 : K ≤ 40) (hw : ∀ j, j < K → v.1 j = some (wa j)) (hWT : WT v wt dp wa K) (hn : sc 3 = nI n) (hn8 : n ≤ 8000) (hN : sc 1 = nI N) (hN4 : N ≤ 400) : Met l yL_best (Cond.codeWith yL_best cL_best 5 (some .int) [(0, 10, 13, 13)] :: uW) { frames := 27, cells := 2, slots := 12, locals := 414 } (pC z v sc ar [.ref (zad z 0), .int (y1), .int (y2), .ref (zad z 53)]) (qI z (fun k u => wP1 (fun r u => ∃ j1 j2, y1 = nI j1 ∧ y2 = nI j2 ∧ j1 ≤ j2 ∧ j2 < K ∧ r = oI ((bst (wLen wt dp (rowL (ar 12) 0 N)) j1 (j2 + 1 - j1)).map Prod.fst) ∧ ∃ sc1 ar1, u = (v, sc1, ar1) ∧ dX n sc ar sc1 ar1) (fun E u => E = xIA ∧ u = (v, sc, ar) ∧ ¬ ∃ a b, y1 = nI a ∧ y2 = nI b ∧ a ≤ b ∧ b < K) k u)) 2 12 (zA z) := by
  refine eH (by decide) (Nat.le_of_ble_eq_true rfl) ?_
  intro pP eE s mM below meth cC ls C hr hlk hTb h hl
  have hx := C.1.1
  have hb := C.1.2.1
  have hl : lv_has ls 5 [(0, .ref (zad z 0)), (1, .int (y1)), (2, .int (y2)), (3, .ref (zad z 53))] := hl
  refine lv_aload_n hx hb dL_best_0 rfl (lv_at hl 3 rfl) ?_
  refine lv_iconst (v := nI (0)) hx hb dL_best_1 (by decide) ?_
  refine lv_aload_n hx hb dL_best_2 rfl (lv_at hl 0 rfl) ?_
  refine lv_iload_n hx hb dL_best_3 rfl (lv_at hl 1 rfl) ?_
  refine lv_iload_n hx hb dL_best_4 rfl (lv_at hl 2 rfl) ?_
  refine xbI h (xrV (As := [.int (y1), .int (y2)]) (rest := [.int (nI (0)), .ref (zad z 53)]) C h (k_best l z v sc ar hl0 K N n wt dp wa y1 y2 hK hK4 hw hWT hn hn8 hN hN4) gv_L_38 gv_L_38_n ⟨rfl, rfl⟩ (r_BM C h) rfl hl.1 rfl (Nat.le_of_ble_eq_true rfl) dL_best_5 ⟨Nat.le_of_ble_eq_true rfl, Nat.le_of_ble_eq_true rfl⟩ ⟨Nat.le_of_ble_eq_true rfl, Nat.le_of_ble_eq_true rfl⟩) (fun E' ce' q' v1 sc1 ar1 H locs hp h c1 c2 c3 => ?_) (fun r v1 sc1 ar1 H locs hp h => ?_)
  · skip
    have hE : E' = xIA := hp.1
    subst hE
    refine xCt [] (⟨0, 10, 13, 13⟩ : ExceptionTableEntry) [] C hTb (fun _ q => absurd q List.not_mem_nil) (by decide) (by decide) ulA (C.2.2.2.2.2.2.2.2.2.1 _ (List.mem_of_getElem? (i := 3) rfl)) (by decide) c1 c2 c3 ?_
    refine lv_astore (lv' := [(4, .ref (q')), (0, .ref (zad z 0)), (1, .int (y1)), (2, .int (y2)), (3, .ref (zad z 53))]) hx hb dL_best_13 hl (by decide) rfl (fun ls hl => ?_)
    refine lv_iconst (v := nI (1)) hx hb dL_best_15 (by decide) ?_
    exact rI C hr hlk h dL_best_16 (Nat.le_of_ble_eq_true rfl) (Nat.le_of_ble_eq_true rfl) (Or.inr ⟨rfl, xIA, hp⟩)
  · skip
    refine lv_i2l (v := (r).toInt64) hx hb dL_best_8 rfl ?_
    refine stJ C h dL_best_9 (fun H locs h => ?_)
    refine lv_goto (tgt := 17) hx hb dL_best_10 (by decide) ?_
    refine lv_iconst (v := nI (0)) hx hb dL_best_17 (by decide) ?_
    exact rI C hr hlk h dL_best_18 (Nat.le_of_ble_eq_true rfl) (Nat.le_of_ble_eq_true rfl) (Or.inl ⟨rfl, r, (v1, sc1, ar1), hp, rfl⟩)
theorem gv_L_41 : GoodIn uW (wsV RL 41 RX9 yX9_chosen (Cond.code yX9_chosen cX9_chosen 2 (some .int) :: uW)) := gI_V (uW_of (by decide +kernel) rfl) (uW_of (by decide +kernel) rfl) (uW_of (by decide +kernel) rfl) (uW_of (by decide +kernel) rfl) (uW_of (by decide +kernel) rfl)
theorem gv_L_41_n : okN yX9_chosen 1 := by decide +kernel
set_option maxHeartbeats 4000000 in
set_option maxRecDepth 100000 in
theorem w_chosen (l : Launch) (z : bZ) (v : bV) (sc : Nat → Int32) (ar : Nat → Nat → Int32) (hl0 : l.stackTraces = false) (x : Int32) : Met l yL_chosen (Cond.codeWith yL_chosen cL_chosen 4 (some .int) [(0, 9, 12, 13)] :: uW) { frames := 7, cells := 1, slots := 6, locals := 111 } (pC z v sc ar [.ref (zad z 0), .int (x), .ref (zad z 53)]) (qI z (fun k u => wP1 (fun r u => u = (v, sc, ar) ∧ ((x = nI 0 ∧ r = sc 12) ∨ (x = nI 1 ∧ r = sc 13) ∨ (x = nI 2 ∧ r = sc 14))) (fun E u => E = xIA ∧ u = (v, sc, ar) ∧ ¬ ∃ j, j ≤ 2 ∧ x = nI j) k u)) 1 6 (zA z) := by
  refine eH (by decide) (Nat.le_of_ble_eq_true rfl) ?_
  intro pP eE s mM below meth cC ls C hr hlk hTb h hl
  have hx := C.1.1
  have hb := C.1.2.1
  have hl : lv_has ls 4 [(0, .ref (zad z 0)), (1, .int (x)), (2, .ref (zad z 53))] := hl
  refine lv_aload_n hx hb dL_chosen_0 rfl (lv_at hl 2 rfl) ?_
  refine lv_iconst (v := nI (0)) hx hb dL_chosen_1 (by decide) ?_
  refine lv_aload_n hx hb dL_chosen_2 rfl (lv_at hl 0 rfl) ?_
  refine lv_iload_n hx hb dL_chosen_3 rfl (lv_at hl 1 rfl) ?_
  refine xbI h (xrV (As := [.int (x)]) (rest := [.int (nI (0)), .ref (zad z 53)]) C h (k_chosen l z v sc ar hl0 x) gv_L_41 gv_L_41_n ⟨rfl, rfl⟩ (r_BM C h) rfl hl.1 rfl (Nat.le_of_ble_eq_true rfl) dL_chosen_4 ⟨Nat.le_of_ble_eq_true rfl, Nat.le_of_ble_eq_true rfl⟩ ⟨Nat.le_of_ble_eq_true rfl, Nat.le_of_ble_eq_true rfl⟩) (fun E' ce' q' v1 sc1 ar1 H locs hp h c1 c2 c3 => ?_) (fun r v1 sc1 ar1 H locs hp h => ?_)
  · skip
    have hE : E' = xIA := hp.1
    subst hE
    refine xCt [] (⟨0, 9, 12, 13⟩ : ExceptionTableEntry) [] C hTb (fun _ q => absurd q List.not_mem_nil) (by decide) (by decide) ulA (C.2.2.2.2.2.2.2.2.2.1 _ (List.mem_of_getElem? (i := 3) rfl)) (by decide) c1 c2 c3 ?_
    refine lv_astore_n (lv' := [(3, .ref (q')), (0, .ref (zad z 0)), (1, .int (x)), (2, .ref (zad z 53))]) hx hb dL_chosen_12 rfl hl (by decide) rfl (fun ls hl => ?_)
    refine lv_iconst (v := nI (1)) hx hb dL_chosen_13 (by decide) ?_
    exact rI C hr hlk h dL_chosen_14 (Nat.le_of_ble_eq_true rfl) (Nat.le_of_ble_eq_true rfl) (Or.inr ⟨rfl, xIA, hp⟩)
  · skip
    refine lv_i2l (v := (r).toInt64) hx hb dL_chosen_7 rfl ?_
    refine stJ C h dL_chosen_8 (fun H locs h => ?_)
    refine lv_goto (tgt := 15) hx hb dL_chosen_9 (by decide) ?_
    refine lv_iconst (v := nI (0)) hx hb dL_chosen_15 (by decide) ?_
    exact rI C hr hlk h dL_chosen_16 (Nat.le_of_ble_eq_true rfl) (Nat.le_of_ble_eq_true rfl) (Or.inl ⟨rfl, r, (v1, sc1, ar1), hp, rfl⟩)
theorem gv_L_44 : GoodIn uW (wsV RL 44 RX9 yX9_feed (Cond.code yX9_feed cX9_feed 4 (some .int) :: uW)) := gI_V (uW_of (by decide +kernel) rfl) (uW_of (by decide +kernel) rfl) (uW_of (by decide +kernel) rfl) (uW_of (by decide +kernel) rfl) (uW_of (by decide +kernel) rfl)
theorem gv_L_44_n : okN yX9_feed 1 := by decide +kernel
set_option maxHeartbeats 4000000 in
set_option maxRecDepth 100000 in
theorem w_feed (l : Launch) (z : bZ) (v : bV) (sc : Nat → Int32) (ar : Nat → Nat → Int32) (hl0 : l.stackTraces = false) (n : Nat) (x : Int32) (hn : sc 3 = nI n) (hn8 : n ≤ 8000) : Met l yL_feed (Cond.codeWith yL_feed cL_feed 4 (some .int) [(0, 9, 12, 15)] :: uW) { frames := 8, cells := 1, slots := 6, locals := 134 } (pC z v sc ar [.ref (zad z 0), .int (x), .ref (zad z 53)]) (qI z (fun k u => wP1 (fun r u => n + 4 ≤ 8000 ∧ r = nI (n + 4) ∧ ∃ g, u = (v, va_up (va_up (va_up sc 5 (nI (3 + 1))) 3 (nI (n + 4))) 5 (nI 0), va_up ar 11 g) ∧ (∀ j, j < n → g j = ar 11 j) ∧ ∀ i, i < 4 → bN g (n + i) = fB x i) (fun E u => E = xIS ∧ u = (v, sc, ar) ∧ 8000 < n + 4) k u)) 1 6 (zA z) := by
  refine eH (by decide) (Nat.le_of_ble_eq_true rfl) ?_
  intro pP eE s mM below meth cC ls C hr hlk hTb h hl
  have hx := C.1.1
  have hb := C.1.2.1
  have hl : lv_has ls 4 [(0, .ref (zad z 0)), (1, .int (x)), (2, .ref (zad z 53))] := hl
  refine lv_aload_n hx hb dL_feed_0 rfl (lv_at hl 2 rfl) ?_
  refine lv_iconst (v := nI (0)) hx hb dL_feed_1 (by decide) ?_
  refine lv_aload_n hx hb dL_feed_2 rfl (lv_at hl 0 rfl) ?_
  refine lv_iload_n hx hb dL_feed_3 rfl (lv_at hl 1 rfl) ?_
  refine xbI h (xrV (As := [.int (x)]) (rest := [.int (nI (0)), .ref (zad z 53)]) C h (k_feed l z v sc ar hl0 n x hn hn8) gv_L_44 gv_L_44_n ⟨rfl, rfl⟩ (r_BM C h) rfl hl.1 rfl (Nat.le_of_ble_eq_true rfl) dL_feed_4 ⟨Nat.le_of_ble_eq_true rfl, Nat.le_of_ble_eq_true rfl⟩ ⟨Nat.le_of_ble_eq_true rfl, Nat.le_of_ble_eq_true rfl⟩) (fun E' ce' q' v1 sc1 ar1 H locs hp h c1 c2 c3 => ?_) (fun r v1 sc1 ar1 H locs hp h => ?_)
  · skip
    have hE : E' = xIS := hp.1
    subst hE
    refine xCt [] (⟨0, 9, 12, 15⟩ : ExceptionTableEntry) [] C hTb (fun _ q => absurd q List.not_mem_nil) (by decide) (by decide) ulS (C.2.2.2.2.2.2.2.2.2.1 _ (List.mem_of_getElem? (i := 4) rfl)) (by decide) c1 c2 c3 ?_
    refine lv_astore_n (lv' := [(3, .ref (q')), (0, .ref (zad z 0)), (1, .int (x)), (2, .ref (zad z 53))]) hx hb dL_feed_12 rfl hl (by decide) rfl (fun ls hl => ?_)
    refine lv_iconst (v := nI (1)) hx hb dL_feed_13 (by decide) ?_
    exact rI C hr hlk h dL_feed_14 (Nat.le_of_ble_eq_true rfl) (Nat.le_of_ble_eq_true rfl) (Or.inr ⟨rfl, xIS, hp⟩)
  · skip
    refine lv_i2l (v := (r).toInt64) hx hb dL_feed_7 rfl ?_
    refine stJ C h dL_feed_8 (fun H locs h => ?_)
    refine lv_goto (tgt := 15) hx hb dL_feed_9 (by decide) ?_
    refine lv_iconst (v := nI (0)) hx hb dL_feed_15 (by decide) ?_
    exact rI C hr hlk h dL_feed_16 (Nat.le_of_ble_eq_true rfl) (Nat.le_of_ble_eq_true rfl) (Or.inl ⟨rfl, r, (v1, sc1, ar1), hp, rfl⟩)
theorem gv_L_47 : GoodIn uW (wsV RL 47 RX9 yX9_end (Cond.code yX9_end cX9_end 3 none :: uW)) := gI_V (uW_of (by decide +kernel) rfl) (uW_of (by decide +kernel) rfl) (uW_of (by decide +kernel) rfl) (uW_of (by decide +kernel) rfl) (uW_of (by decide +kernel) rfl)
theorem gv_L_47_n : okN yX9_end 1 := by decide +kernel
set_option maxHeartbeats 4000000 in
set_option maxRecDepth 100000 in
theorem w_end (l : Launch) (z : bZ) (v : bV) (sc : Nat → Int32) (ar : Nat → Nat → Int32) (hl0 : l.stackTraces = false) (n rf : Nat) (x : Int32) (hn : sc 3 = nI n) (hn8 : n ≤ 8000) (hf : sc 4 = nI rf) (hrf : rf ≤ n) : Met l yL_end (Cond.codeWith yL_end cL_end 3 (some .int) [(0, 5, 8, 13)] :: uW) { frames := 8, cells := 1, slots := 6, locals := 134 } (pC z v sc ar [.ref (zad z 0), .int (x)]) (qI z (fun k u => wPv (fun u => ∃ j, j ≤ n ∧ x = nI j ∧ u = (v, va_up (va_up sc 3 (nI j)) 4 (nI (min rf j)), ar)) (fun E u => E = xIA ∧ u = (v, sc, ar) ∧ ¬ ∃ j, j ≤ n ∧ x = nI j) k u)) 1 6 (zA z) := by
  refine eH (by decide) (Nat.le_of_ble_eq_true rfl) ?_
  intro pP eE s mM below meth cC ls C hr hlk hTb h hl
  have hx := C.1.1
  have hb := C.1.2.1
  have hl : lv_has ls 3 [(0, .ref (zad z 0)), (1, .int (x))] := hl
  refine lv_aload_n hx hb dL_end_0 rfl (lv_at hl 0 rfl) ?_
  refine lv_iload_n hx hb dL_end_1 rfl (lv_at hl 1 rfl) ?_
  refine xbV h (xrV (As := [.int (x)]) (rest := []) C h (k_end l z v sc ar hl0 n rf x hn hn8 hf hrf) gv_L_47 gv_L_47_n ⟨rfl, rfl⟩ (r_BM C h) rfl hl.1 rfl (Nat.le_of_ble_eq_true rfl) dL_end_2 ⟨Nat.le_of_ble_eq_true rfl, Nat.le_of_ble_eq_true rfl⟩ ⟨Nat.le_of_ble_eq_true rfl, Nat.le_of_ble_eq_true rfl⟩) (fun E' ce' q' v1 sc1 ar1 H locs hp h c1 c2 c3 => ?_) (fun v1 sc1 ar1 H locs hp h => ?_)
  · skip
    have hE : E' = xIA := hp.1
    subst hE
    refine xCt [] (⟨0, 5, 8, 13⟩ : ExceptionTableEntry) [] C hTb (fun _ q => absurd q List.not_mem_nil) (by decide) (by decide) ulA (C.2.2.2.2.2.2.2.2.2.1 _ (List.mem_of_getElem? (i := 3) rfl)) (by decide) c1 c2 c3 ?_
    refine lv_astore_n (lv' := [(2, .ref (q')), (0, .ref (zad z 0)), (1, .int (x))]) hx hb dL_end_8 rfl hl (by decide) rfl (fun ls hl => ?_)
    refine lv_iconst (v := nI (1)) hx hb dL_end_9 (by decide) ?_
    exact rI C hr hlk h dL_end_10 (Nat.le_of_ble_eq_true rfl) (Nat.le_of_ble_eq_true rfl) (Or.inr ⟨rfl, xIA, hp⟩)
  · skip
    refine lv_goto (tgt := 11) hx hb dL_end_5 (by decide) ?_
    refine lv_iconst (v := nI (0)) hx hb dL_end_11 (by decide) ?_
    exact rI C hr hlk h dL_end_12 (Nat.le_of_ble_eq_true rfl) (Nat.le_of_ble_eq_true rfl) (Or.inl ⟨rfl, hp⟩)
theorem gv_L_51 : GoodIn uW (wsV RL 51 RX9 yX9_seek (Cond.code yX9_seek cX9_seek 4 (some .int) :: uW)) := gI_V (uW_of (by decide +kernel) rfl) (uW_of (by decide +kernel) rfl) (uW_of (by decide +kernel) rfl) (uW_of (by decide +kernel) rfl) (uW_of (by decide +kernel) rfl)
theorem gv_L_51_n : okN yX9_seek 1 := by decide +kernel
set_option maxHeartbeats 4000000 in
set_option maxRecDepth 100000 in
theorem w_seek (l : Launch) (z : bZ) (v : bV) (sc : Nat → Int32) (ar : Nat → Nat → Int32) (hl0 : l.stackTraces = false) (n rf : Nat) (x : Int32) (hn : sc 3 = nI n) (hn8 : n ≤ 8000) (hf : sc 4 = nI rf) (hrf : rf ≤ n) : Met l yL_seek (Cond.codeWith yL_seek cL_seek 4 (some .int) [(0, 9, 12, 13)] :: uW) { frames := 8, cells := 1, slots := 6, locals := 135 } (pC z v sc ar [.ref (zad z 0), .int (x), .ref (zad z 53)]) (qI z (fun k u => wP1 (fun r u => ∃ j, j ≤ n ∧ x = nI j ∧ r = nI rf ∧ u = (v, va_up sc 4 (nI j), ar)) (fun E u => E = xIA ∧ u = (v, sc, ar) ∧ ¬ ∃ j, j ≤ n ∧ x = nI j) k u)) 1 6 (zA z) := by
  refine eH (by decide) (Nat.le_of_ble_eq_true rfl) ?_
  intro pP eE s mM below meth cC ls C hr hlk hTb h hl
  have hx := C.1.1
  have hb := C.1.2.1
  have hl : lv_has ls 4 [(0, .ref (zad z 0)), (1, .int (x)), (2, .ref (zad z 53))] := hl
  refine lv_aload_n hx hb dL_seek_0 rfl (lv_at hl 2 rfl) ?_
  refine lv_iconst (v := nI (0)) hx hb dL_seek_1 (by decide) ?_
  refine lv_aload_n hx hb dL_seek_2 rfl (lv_at hl 0 rfl) ?_
  refine lv_iload_n hx hb dL_seek_3 rfl (lv_at hl 1 rfl) ?_
  refine xbI h (xrV (As := [.int (x)]) (rest := [.int (nI (0)), .ref (zad z 53)]) C h (k_seek l z v sc ar hl0 n rf x hn hn8 hf hrf) gv_L_51 gv_L_51_n ⟨rfl, rfl⟩ (r_BM C h) rfl hl.1 rfl (Nat.le_of_ble_eq_true rfl) dL_seek_4 ⟨Nat.le_of_ble_eq_true rfl, Nat.le_of_ble_eq_true rfl⟩ ⟨Nat.le_of_ble_eq_true rfl, Nat.le_of_ble_eq_true rfl⟩) (fun E' ce' q' v1 sc1 ar1 H locs hp h c1 c2 c3 => ?_) (fun r v1 sc1 ar1 H locs hp h => ?_)
  · skip
    have hE : E' = xIA := hp.1
    subst hE
    refine xCt [] (⟨0, 9, 12, 13⟩ : ExceptionTableEntry) [] C hTb (fun _ q => absurd q List.not_mem_nil) (by decide) (by decide) ulA (C.2.2.2.2.2.2.2.2.2.1 _ (List.mem_of_getElem? (i := 3) rfl)) (by decide) c1 c2 c3 ?_
    refine lv_astore_n (lv' := [(3, .ref (q')), (0, .ref (zad z 0)), (1, .int (x)), (2, .ref (zad z 53))]) hx hb dL_seek_12 rfl hl (by decide) rfl (fun ls hl => ?_)
    refine lv_iconst (v := nI (1)) hx hb dL_seek_13 (by decide) ?_
    exact rI C hr hlk h dL_seek_14 (Nat.le_of_ble_eq_true rfl) (Nat.le_of_ble_eq_true rfl) (Or.inr ⟨rfl, xIA, hp⟩)
  · skip
    refine lv_i2l (v := (r).toInt64) hx hb dL_seek_7 rfl ?_
    refine stJ C h dL_seek_8 (fun H locs h => ?_)
    refine lv_goto (tgt := 15) hx hb dL_seek_9 (by decide) ?_
    refine lv_iconst (v := nI (0)) hx hb dL_seek_15 (by decide) ?_
    exact rI C hr hlk h dL_seek_16 (Nat.le_of_ble_eq_true rfl) (Nat.le_of_ble_eq_true rfl) (Or.inl ⟨rfl, r, (v1, sc1, ar1), hp, rfl⟩)
theorem gv_L_54 : GoodIn uW (wsV RL 54 RX9 yX9_way (Cond.code yX9_way cX9_way 4 (some .int) :: uW)) := gI_V (uW_of (by decide +kernel) rfl) (uW_of (by decide +kernel) rfl) (uW_of (by decide +kernel) rfl) (uW_of (by decide +kernel) rfl) (uW_of (by decide +kernel) rfl)
theorem gv_L_54_n : okN yX9_way 2 := by decide +kernel
set_option maxHeartbeats 4000000 in
set_option maxRecDepth 100000 in
theorem w_way (l : Launch) (z : bZ) (v : bV) (sc : Nat → Int32) (ar : Nat → Nat → Int32) (hl0 : l.stackTraces = false) (K : Nat) (wt : Nat → Nat → Nat) (dp wa : Nat → Nat) (y1 x : Int32) (hK : sc 0 = nI K) (hK4 : K ≤ 40) (hw : ∀ j, j < K → v.1 j = some (wa j)) (hWT : WT v wt dp wa K) : Met l yL_way (Cond.codeWith yL_way cL_way 5 (some .int) [(0, 10, 13, 13)] :: uW) { frames := 9, cells := 2, slots := 12, locals := 156 } (pC z v sc ar [.ref (zad z 0), .int (y1), .int (x), .ref (zad z 53)]) (qI z (fun k u => wP1 (fun r u => u = (v, sc, ar) ∧ ∃ j1 q, (y1 = nI j1 ∧ j1 < K) ∧ (x = nI q ∧ q ≤ 4) ∧ r = if q = 4 then nI (dp j1) else trF wt j1 q) (fun E u => E = xIA ∧ u = (v, sc, ar) ∧ ¬ (isW K y1 ∧ inR 0 4 x)) k u)) 2 12 (zA z) := by
  refine eH (by decide) (Nat.le_of_ble_eq_true rfl) ?_
  intro pP eE s mM below meth cC ls C hr hlk hTb h hl
  have hx := C.1.1
  have hb := C.1.2.1
  have hl : lv_has ls 5 [(0, .ref (zad z 0)), (1, .int (y1)), (2, .int (x)), (3, .ref (zad z 53))] := hl
  refine lv_aload_n hx hb dL_way_0 rfl (lv_at hl 3 rfl) ?_
  refine lv_iconst (v := nI (0)) hx hb dL_way_1 (by decide) ?_
  refine lv_aload_n hx hb dL_way_2 rfl (lv_at hl 0 rfl) ?_
  refine lv_iload_n hx hb dL_way_3 rfl (lv_at hl 1 rfl) ?_
  refine lv_iload_n hx hb dL_way_4 rfl (lv_at hl 2 rfl) ?_
  refine xbI h (xrV (As := [.int (y1), .int (x)]) (rest := [.int (nI (0)), .ref (zad z 53)]) C h (k_way l z v sc ar hl0 K wt dp wa y1 x hK hK4 hw hWT) gv_L_54 gv_L_54_n ⟨rfl, rfl⟩ (r_BM C h) rfl hl.1 rfl (Nat.le_of_ble_eq_true rfl) dL_way_5 ⟨Nat.le_of_ble_eq_true rfl, Nat.le_of_ble_eq_true rfl⟩ ⟨Nat.le_of_ble_eq_true rfl, Nat.le_of_ble_eq_true rfl⟩) (fun E' ce' q' v1 sc1 ar1 H locs hp h c1 c2 c3 => ?_) (fun r v1 sc1 ar1 H locs hp h => ?_)
  · skip
    have hE : E' = xIA := hp.1
    subst hE
    refine xCt [] (⟨0, 10, 13, 13⟩ : ExceptionTableEntry) [] C hTb (fun _ q => absurd q List.not_mem_nil) (by decide) (by decide) ulA (C.2.2.2.2.2.2.2.2.2.1 _ (List.mem_of_getElem? (i := 3) rfl)) (by decide) c1 c2 c3 ?_
    refine lv_astore (lv' := [(4, .ref (q')), (0, .ref (zad z 0)), (1, .int (y1)), (2, .int (x)), (3, .ref (zad z 53))]) hx hb dL_way_13 hl (by decide) rfl (fun ls hl => ?_)
    refine lv_iconst (v := nI (1)) hx hb dL_way_15 (by decide) ?_
    exact rI C hr hlk h dL_way_16 (Nat.le_of_ble_eq_true rfl) (Nat.le_of_ble_eq_true rfl) (Or.inr ⟨rfl, xIA, hp⟩)
  · skip
    refine lv_i2l (v := (r).toInt64) hx hb dL_way_8 rfl ?_
    refine stJ C h dL_way_9 (fun H locs h => ?_)
    refine lv_goto (tgt := 17) hx hb dL_way_10 (by decide) ?_
    refine lv_iconst (v := nI (0)) hx hb dL_way_17 (by decide) ?_
    exact rI C hr hlk h dL_way_18 (Nat.le_of_ble_eq_true rfl) (Nat.le_of_ble_eq_true rfl) (Or.inl ⟨rfl, r, (v1, sc1, ar1), hp, rfl⟩)
theorem gv_L_57 : GoodIn uW (wsV RL 57 RX9 yX9_about (Cond.code yX9_about cX9_about 2 (some .int) :: uW)) := gI_V (uW_of (by decide +kernel) rfl) (uW_of (by decide +kernel) rfl) (uW_of (by decide +kernel) rfl) (uW_of (by decide +kernel) rfl) (uW_of (by decide +kernel) rfl)
theorem gv_L_57_n : okN yX9_about 1 := by decide +kernel
set_option maxHeartbeats 4000000 in
set_option maxRecDepth 100000 in
theorem w_about (l : Launch) (z : bZ) (v : bV) (sc : Nat → Int32) (ar : Nat → Nat → Int32) (hl0 : l.stackTraces = false) (x : Int32) : Met l yL_about (Cond.codeWith yL_about cL_about 4 (some .int) [(0, 9, 12, 13)] :: uW) { frames := 7, cells := 1, slots := 6, locals := 111 } (pC z v sc ar [.ref (zad z 0), .int (x), .ref (zad z 53)]) (qI z (fun k u => wP1 (fun r u => u = (v, sc, ar) ∧ ((x = nI 0 ∧ r = sc 0) ∨ (x = nI 1 ∧ r = sc 1) ∨ (x = nI 2 ∧ r = sc 3) ∨ (x = nI 3 ∧ r = sc 4))) (fun E u => E = xIA ∧ u = (v, sc, ar) ∧ ¬ ∃ j, j ≤ 3 ∧ x = nI j) k u)) 1 6 (zA z) := by
  refine eH (by decide) (Nat.le_of_ble_eq_true rfl) ?_
  intro pP eE s mM below meth cC ls C hr hlk hTb h hl
  have hx := C.1.1
  have hb := C.1.2.1
  have hl : lv_has ls 4 [(0, .ref (zad z 0)), (1, .int (x)), (2, .ref (zad z 53))] := hl
  refine lv_aload_n hx hb dL_about_0 rfl (lv_at hl 2 rfl) ?_
  refine lv_iconst (v := nI (0)) hx hb dL_about_1 (by decide) ?_
  refine lv_aload_n hx hb dL_about_2 rfl (lv_at hl 0 rfl) ?_
  refine lv_iload_n hx hb dL_about_3 rfl (lv_at hl 1 rfl) ?_
  refine xbI h (xrV (As := [.int (x)]) (rest := [.int (nI (0)), .ref (zad z 53)]) C h (k_about l z v sc ar hl0 x) gv_L_57 gv_L_57_n ⟨rfl, rfl⟩ (r_BM C h) rfl hl.1 rfl (Nat.le_of_ble_eq_true rfl) dL_about_4 ⟨Nat.le_of_ble_eq_true rfl, Nat.le_of_ble_eq_true rfl⟩ ⟨Nat.le_of_ble_eq_true rfl, Nat.le_of_ble_eq_true rfl⟩) (fun E' ce' q' v1 sc1 ar1 H locs hp h c1 c2 c3 => ?_) (fun r v1 sc1 ar1 H locs hp h => ?_)
  · skip
    have hE : E' = xIA := hp.1
    subst hE
    refine xCt [] (⟨0, 9, 12, 13⟩ : ExceptionTableEntry) [] C hTb (fun _ q => absurd q List.not_mem_nil) (by decide) (by decide) ulA (C.2.2.2.2.2.2.2.2.2.1 _ (List.mem_of_getElem? (i := 3) rfl)) (by decide) c1 c2 c3 ?_
    refine lv_astore_n (lv' := [(3, .ref (q')), (0, .ref (zad z 0)), (1, .int (x)), (2, .ref (zad z 53))]) hx hb dL_about_12 rfl hl (by decide) rfl (fun ls hl => ?_)
    refine lv_iconst (v := nI (1)) hx hb dL_about_13 (by decide) ?_
    exact rI C hr hlk h dL_about_14 (Nat.le_of_ble_eq_true rfl) (Nat.le_of_ble_eq_true rfl) (Or.inr ⟨rfl, xIA, hp⟩)
  · skip
    refine lv_i2l (v := (r).toInt64) hx hb dL_about_7 rfl ?_
    refine stJ C h dL_about_8 (fun H locs h => ?_)
    refine lv_goto (tgt := 15) hx hb dL_about_9 (by decide) ?_
    refine lv_iconst (v := nI (0)) hx hb dL_about_15 (by decide) ?_
    exact rI C hr hlk h dL_about_16 (Nat.le_of_ble_eq_true rfl) (Nat.le_of_ble_eq_true rfl) (Or.inl ⟨rfl, r, (v1, sc1, ar1), hp, rfl⟩)
