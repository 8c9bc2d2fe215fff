section
-- ===== PART A: goes FIRST, ahead of the names: the tables' words, and 'selects' of the private methods out of them =====
/-- a private method of a class that the tables say can be made, by its rows of tables_1 -/
def lw_okq (q : MethodName × Nat) : Prop := (q.1.cls ≠ "java/lang/invoke/MethodHandle" ∧ q.1.cls ≠ "java/lang/invoke/VarHandle") ∧ Cond.instantiable q.1.cls q.2 ∈ tables_1 ∧ Cond.privateMethod q.1 ∈ tables_1 ∧ Cond.instanceMethod q.1 ∈ tables_1
theorem lw_p0 : lw_okq (⟨"BandMill$Coding", "codeOf", "(II)J"⟩, 6) := ⟨⟨by decide +kernel, by decide +kernel⟩, List.mem_of_getElem? (i := 219) (by decide +kernel), List.mem_of_getElem? (i := 217) (by decide +kernel), List.mem_of_getElem? (i := 218) (by decide +kernel)⟩
theorem lw_p1 : lw_okq (⟨"java/lang/Throwable", "fillInStackTrace", "(I)Ljava/lang/Throwable;"⟩, 6) := ⟨⟨by decide +kernel, by decide +kernel⟩, List.mem_of_getElem? (i := 294) (by decide +kernel), List.mem_of_getElem? (i := 292) (by decide +kernel), List.mem_of_getElem? (i := 293) (by decide +kernel)⟩
theorem lw_p2 : lw_okq (⟨"BandMill", "checkRoomForWay", "(I)V"⟩, 8) := ⟨⟨by decide +kernel, by decide +kernel⟩, List.mem_of_getElem? (i := 20) (by decide +kernel), List.mem_of_getElem? (i := 323) (by decide +kernel), List.mem_of_getElem? (i := 324) (by decide +kernel)⟩
theorem lw_p3 : lw_okq (⟨"BandMill", "addWay", "(LBandMill$Way;)I"⟩, 8) := ⟨⟨by decide +kernel, by decide +kernel⟩, List.mem_of_getElem? (i := 20) (by decide +kernel), List.mem_of_getElem? (i := 373) (by decide +kernel), List.mem_of_getElem? (i := 374) (by decide +kernel)⟩
theorem lw_p4 : lw_okq (⟨"BandMill", "wayAt", "(I)LBandMill$Way;"⟩, 8) := ⟨⟨by decide +kernel, by decide +kernel⟩, List.mem_of_getElem? (i := 20) (by decide +kernel), List.mem_of_getElem? (i := 384) (by decide +kernel), List.mem_of_getElem? (i := 385) (by decide +kernel)⟩
theorem lw_p5 : lw_okq (⟨"BandMill", "draftRow", "(LBandMill$Way;)I"⟩, 8) := ⟨⟨by decide +kernel, by decide +kernel⟩, List.mem_of_getElem? (i := 20) (by decide +kernel), List.mem_of_getElem? (i := 450) (by decide +kernel), List.mem_of_getElem? (i := 451) (by decide +kernel)⟩
theorem lw_p6 : lw_okq (⟨"BandMill$Coding", "writeCode", "(JLBandMill$Tape;)Z"⟩, 6) := ⟨⟨by decide +kernel, by decide +kernel⟩, List.mem_of_getElem? (i := 219) (by decide +kernel), List.mem_of_getElem? (i := 464) (by decide +kernel), List.mem_of_getElem? (i := 465) (by decide +kernel)⟩
theorem lw_p7 : lw_okq (⟨"BandMill$Census", "empty", "(I)V"⟩, 5) := ⟨⟨by decide +kernel, by decide +kernel⟩, List.mem_of_getElem? (i := 73) (by decide +kernel), List.mem_of_getElem? (i := 479) (by decide +kernel), List.mem_of_getElem? (i := 480) (by decide +kernel)⟩
theorem lw_p8 : lw_okq (⟨"BandMill$Census", "kindOf", "(I)I"⟩, 5) := ⟨⟨by decide +kernel, by decide +kernel⟩, List.mem_of_getElem? (i := 73) (by decide +kernel), List.mem_of_getElem? (i := 483) (by decide +kernel), List.mem_of_getElem? (i := 484) (by decide +kernel)⟩
theorem lw_p9 : lw_okq (⟨"BandMill$Census", "chooseFavourites", "(I[I)V"⟩, 5) := ⟨⟨by decide +kernel, by decide +kernel⟩, List.mem_of_getElem? (i := 73) (by decide +kernel), List.mem_of_getElem? (i := 488) (by decide +kernel), List.mem_of_getElem? (i := 489) (by decide +kernel)⟩
theorem lw_p10 : lw_okq (⟨"BandMill$Census", "mostFrequent", "()I"⟩, 5) := ⟨⟨by decide +kernel, by decide +kernel⟩, List.mem_of_getElem? (i := 73) (by decide +kernel), List.mem_of_getElem? (i := 492) (by decide +kernel), List.mem_of_getElem? (i := 493) (by decide +kernel)⟩
theorem lw_p11 : lw_okq (⟨"BandMill", "checkRoomOnTape", "(I)V"⟩, 8) := ⟨⟨by decide +kernel, by decide +kernel⟩, List.mem_of_getElem? (i := 20) (by decide +kernel), List.mem_of_getElem? (i := 513) (by decide +kernel), List.mem_of_getElem? (i := 514) (by decide +kernel)⟩
theorem lw_p12 : lw_okq (⟨"BandMill$Coding", "readCode", "(LBandMill$Tape;)J"⟩, 6) := ⟨⟨by decide +kernel, by decide +kernel⟩, List.mem_of_getElem? (i := 219) (by decide +kernel), List.mem_of_getElem? (i := 540) (by decide +kernel), List.mem_of_getElem? (i := 541) (by decide +kernel)⟩
theorem lw_p13 : lw_okq (⟨"BandMill$Coding", "numberOf", "(J)J"⟩, 6) := ⟨⟨by decide +kernel, by decide +kernel⟩, List.mem_of_getElem? (i := 219) (by decide +kernel), List.mem_of_getElem? (i := 553) (by decide +kernel), List.mem_of_getElem? (i := 554) (by decide +kernel)⟩
theorem lw_p14 : lw_okq (⟨"BandMillModel", "refuses", "(I)Z"⟩, 40) := ⟨⟨by decide +kernel, by decide +kernel⟩, List.mem_of_getElem? (i := 642) (by decide +kernel), List.mem_of_getElem? (i := 778) (by decide +kernel), List.mem_of_getElem? (i := 779) (by decide +kernel)⟩
theorem lw_p15 : lw_okq (⟨"BandMillModel", "add", "(IIIII)I"⟩, 40) := ⟨⟨by decide +kernel, by decide +kernel⟩, List.mem_of_getElem? (i := 642) (by decide +kernel), List.mem_of_getElem? (i := 782) (by decide +kernel), List.mem_of_getElem? (i := 783) (by decide +kernel)⟩
def lw_privs_1 : List (MethodName × Nat) := [(⟨"BandMill$Coding", "codeOf", "(II)J"⟩, 6), (⟨"java/lang/Throwable", "fillInStackTrace", "(I)Ljava/lang/Throwable;"⟩, 6), (⟨"BandMill", "checkRoomForWay", "(I)V"⟩, 8), (⟨"BandMill", "addWay", "(LBandMill$Way;)I"⟩, 8), (⟨"BandMill", "wayAt", "(I)LBandMill$Way;"⟩, 8), (⟨"BandMill", "draftRow", "(LBandMill$Way;)I"⟩, 8), (⟨"BandMill$Coding", "writeCode", "(JLBandMill$Tape;)Z"⟩, 6), (⟨"BandMill$Census", "empty", "(I)V"⟩, 5), (⟨"BandMill$Census", "kindOf", "(I)I"⟩, 5), (⟨"BandMill$Census", "chooseFavourites", "(I[I)V"⟩, 5), (⟨"BandMill$Census", "mostFrequent", "()I"⟩, 5), (⟨"BandMill", "checkRoomOnTape", "(I)V"⟩, 8), (⟨"BandMill$Coding", "readCode", "(LBandMill$Tape;)J"⟩, 6), (⟨"BandMill$Coding", "numberOf", "(J)J"⟩, 6), (⟨"BandMillModel", "refuses", "(I)Z"⟩, 40), (⟨"BandMillModel", "add", "(IIIII)I"⟩, 40)]
theorem lw_r1 : ∀ q ∈ lw_privs_1, lw_okq q := List.forall_mem_cons.mpr ⟨lw_p0, List.forall_mem_cons.mpr ⟨lw_p1, List.forall_mem_cons.mpr ⟨lw_p2, List.forall_mem_cons.mpr ⟨lw_p3, List.forall_mem_cons.mpr ⟨lw_p4, List.forall_mem_cons.mpr ⟨lw_p5, List.forall_mem_cons.mpr ⟨lw_p6, List.forall_mem_cons.mpr ⟨lw_p7, List.forall_mem_cons.mpr ⟨lw_p8, List.forall_mem_cons.mpr ⟨lw_p9, List.forall_mem_cons.mpr ⟨lw_p10, List.forall_mem_cons.mpr ⟨lw_p11, List.forall_mem_cons.mpr ⟨lw_p12, List.forall_mem_cons.mpr ⟨lw_p13, List.forall_mem_cons.mpr ⟨lw_p14, List.forall_mem_cons.mpr ⟨lw_p15, fun _ h => absurd h List.not_mem_nil⟩⟩⟩⟩⟩⟩⟩⟩⟩⟩⟩⟩⟩⟩⟩⟩
theorem lw_p16 : lw_okq (⟨"BandMillModel", "isWay", "(I)Z"⟩, 40) := ⟨⟨by decide +kernel, by decide +kernel⟩, List.mem_of_getElem? (i := 642) (by decide +kernel), List.mem_of_getElem? (i := 790) (by decide +kernel), List.mem_of_getElem? (i := 791) (by decide +kernel)⟩
theorem lw_p17 : lw_okq (⟨"BandMillModel", "deep", "(II)I"⟩, 40) := ⟨⟨by decide +kernel, by decide +kernel⟩, List.mem_of_getElem? (i := 642) (by decide +kernel), List.mem_of_getElem? (i := 794) (by decide +kernel), List.mem_of_getElem? (i := 795) (by decide +kernel)⟩
theorem lw_p18 : lw_okq (⟨"BandMillModel", "writes", "(I)Z"⟩, 40) := ⟨⟨by decide +kernel, by decide +kernel⟩, List.mem_of_getElem? (i := 642) (by decide +kernel), List.mem_of_getElem? (i := 818) (by decide +kernel), List.mem_of_getElem? (i := 819) (by decide +kernel)⟩
theorem lw_p19 : lw_okq (⟨"BandMillModel", "task", "(III)V"⟩, 40) := ⟨⟨by decide +kernel, by decide +kernel⟩, List.mem_of_getElem? (i := 642) (by decide +kernel), List.mem_of_getElem? (i := 822) (by decide +kernel), List.mem_of_getElem? (i := 823) (by decide +kernel)⟩
theorem lw_p20 : lw_okq (⟨"BandMillModel", "favours", "(III)V"⟩, 40) := ⟨⟨by decide +kernel, by decide +kernel⟩, List.mem_of_getElem? (i := 642) (by decide +kernel), List.mem_of_getElem? (i := 826) (by decide +kernel), List.mem_of_getElem? (i := 827) (by decide +kernel)⟩
theorem lw_p21 : lw_okq (⟨"BandMillModel", "told", "(III)I"⟩, 40) := ⟨⟨by decide +kernel, by decide +kernel⟩, List.mem_of_getElem? (i := 642) (by decide +kernel), List.mem_of_getElem? (i := 830) (by decide +kernel), List.mem_of_getElem? (i := 831) (by decide +kernel)⟩
theorem lw_p22 : lw_okq (⟨"BandMillModel", "bytes", "(IIZ)I"⟩, 40) := ⟨⟨by decide +kernel, by decide +kernel⟩, List.mem_of_getElem? (i := 642) (by decide +kernel), List.mem_of_getElem? (i := 834) (by decide +kernel), List.mem_of_getElem? (i := 835) (by decide +kernel)⟩
theorem lw_p23 : lw_okq (⟨"BandMillModel", "reads", "(II)V"⟩, 40) := ⟨⟨by decide +kernel, by decide +kernel⟩, List.mem_of_getElem? (i := 642) (by decide +kernel), List.mem_of_getElem? (i := 856) (by decide +kernel), List.mem_of_getElem? (i := 857) (by decide +kernel)⟩
theorem lw_p24 : lw_okq (⟨"BandMillModel", "into", "(IIII)V"⟩, 40) := ⟨⟨by decide +kernel, by decide +kernel⟩, List.mem_of_getElem? (i := 642) (by decide +kernel), List.mem_of_getElem? (i := 860) (by decide +kernel), List.mem_of_getElem? (i := 861) (by decide +kernel)⟩
theorem lw_p25 : lw_okq (⟨"BandMillModel", "readsCodes", "(III)V"⟩, 40) := ⟨⟨by decide +kernel, by decide +kernel⟩, List.mem_of_getElem? (i := 642) (by decide +kernel), List.mem_of_getElem? (i := 864) (by decide +kernel), List.mem_of_getElem? (i := 865) (by decide +kernel)⟩
theorem lw_p26 : lw_okq (⟨"BandMillModel", "fails", "(II)V"⟩, 40) := ⟨⟨by decide +kernel, by decide +kernel⟩, List.mem_of_getElem? (i := 642) (by decide +kernel), List.mem_of_getElem? (i := 868) (by decide +kernel), List.mem_of_getElem? (i := 869) (by decide +kernel)⟩
theorem lw_p27 : lw_okq (⟨"BandMillModel", "readsPopular", "(II)V"⟩, 40) := ⟨⟨by decide +kernel, by decide +kernel⟩, List.mem_of_getElem? (i := 642) (by decide +kernel), List.mem_of_getElem? (i := 873) (by decide +kernel), List.mem_of_getElem? (i := 874) (by decide +kernel)⟩
theorem lw_p28 : lw_okq (⟨"BandMillModel", "room", "(I)I"⟩, 40) := ⟨⟨by decide +kernel, by decide +kernel⟩, List.mem_of_getElem? (i := 642) (by decide +kernel), List.mem_of_getElem? (i := 877) (by decide +kernel), List.mem_of_getElem? (i := 878) (by decide +kernel)⟩
theorem lw_p29 : lw_okq (⟨"BandMillModel", "sums", "(I)V"⟩, 40) := ⟨⟨by decide +kernel, by decide +kernel⟩, List.mem_of_getElem? (i := 642) (by decide +kernel), List.mem_of_getElem? (i := 893) (by decide +kernel), List.mem_of_getElem? (i := 894) (by decide +kernel)⟩
def lw_privs_2 : List (MethodName × Nat) := [(⟨"BandMillModel", "isWay", "(I)Z"⟩, 40), (⟨"BandMillModel", "deep", "(II)I"⟩, 40), (⟨"BandMillModel", "writes", "(I)Z"⟩, 40), (⟨"BandMillModel", "task", "(III)V"⟩, 40), (⟨"BandMillModel", "favours", "(III)V"⟩, 40), (⟨"BandMillModel", "told", "(III)I"⟩, 40), (⟨"BandMillModel", "bytes", "(IIZ)I"⟩, 40), (⟨"BandMillModel", "reads", "(II)V"⟩, 40), (⟨"BandMillModel", "into", "(IIII)V"⟩, 40), (⟨"BandMillModel", "readsCodes", "(III)V"⟩, 40), (⟨"BandMillModel", "fails", "(II)V"⟩, 40), (⟨"BandMillModel", "readsPopular", "(II)V"⟩, 40), (⟨"BandMillModel", "room", "(I)I"⟩, 40), (⟨"BandMillModel", "sums", "(I)V"⟩, 40)]
theorem lw_r2 : ∀ q ∈ lw_privs_2, lw_okq q := List.forall_mem_cons.mpr ⟨lw_p16, List.forall_mem_cons.mpr ⟨lw_p17, List.forall_mem_cons.mpr ⟨lw_p18, List.forall_mem_cons.mpr ⟨lw_p19, List.forall_mem_cons.mpr ⟨lw_p20, List.forall_mem_cons.mpr ⟨lw_p21, List.forall_mem_cons.mpr ⟨lw_p22, List.forall_mem_cons.mpr ⟨lw_p23, List.forall_mem_cons.mpr ⟨lw_p24, List.forall_mem_cons.mpr ⟨lw_p25, List.forall_mem_cons.mpr ⟨lw_p26, List.forall_mem_cons.mpr ⟨lw_p27, List.forall_mem_cons.mpr ⟨lw_p28, List.forall_mem_cons.mpr ⟨lw_p29, fun _ h => absurd h List.not_mem_nil⟩⟩⟩⟩⟩⟩⟩⟩⟩⟩⟩⟩⟩⟩
def lw_privs : List (MethodName × Nat) := lw_privs_1 ++ (lw_privs_2)
def lw_tbl : List Cond := k2_sels lw_privs ++ tables_1
theorem lw_privs_ok : ∀ q ∈ lw_privs, lw_okq q := by
  show ∀ q ∈ lw_privs_1 ++ (lw_privs_2), lw_okq q
  exact List.forall_mem_append.mpr ⟨lw_r1, lw_r2⟩
end
section
/-! ===== BEGIN words of one list among another's, by their places ===== -/
theorem goodIn_r {big : List Cond} (ws : List Cond) (ps : List Nat) (hp : ws = ps.filterMap (fun i => big[i]?)) (h : ws.all goodWord = true) : GoodIn big ws := by
  intro w hw
  have h1 := List.all_eq_true.mp h w hw
  rw [hp] at hw
  obtain ⟨i, -, hi⟩ := List.mem_filterMap.mp hw
  have hm : w ∈ big := by first | exact List.mem_of_getElem? hi | exact List.getElem?_mem hi
  exact ⟨hm, good_of_word h1⟩
theorem goodIn_app {big a b : List Cond} (ha : GoodIn big a) (hb : GoodIn big b) : GoodIn big (a ++ b) := fun w h => (List.mem_append.mp h).elim (ha w) (hb w)
theorem goodIn_ca {big a b : List Cond} {c : Cond} (ha : GoodIn big (c :: a)) (hb : GoodIn big b) : GoodIn big (c :: (a ++ b)) := fun w h => (List.mem_cons.mp h).elim (fun e => ha w (List.mem_cons.mpr (Or.inl e))) (fun h => (List.mem_append.mp h).elim (fun h => ha w (List.mem_cons.mpr (Or.inr h))) (hb w))
theorem goodIn_sub {big ws : List Cond} (hm : ∀ w ∈ ws, w ∈ big) (h : ws.all goodWord = true) : GoodIn big ws := fun w hw => ⟨hm w hw, good_of_word (List.all_eq_true.mp h w hw)⟩
/-! ===== END ===== -/

/-! ===== BEGIN exceptions that leave a method, and their catching by the caller (launches without stack traces) ===== -/
section VXA
/-! The laws vx_back, vx_callV, vx_callS, vx_callSW, vx_throw0, vx_throwS follow proofs of the library, with one case more: JvmDerived/Free/Laws.lean (Back.of_free), Shelf42/LK1.lean (callV, callS), Shelf/KitTraced.lean (throwNew0V, throwNewS). -/
/-- where a method has thrown q: the class by its name, the cell, what was written, the world -/
def vx_T (XC : String → State → State → Prop) (st : State) (q : Addr) (t : State) (mc ms : Nat) (free : Addr → Prop) : Prop :=
  ∃ (E : String) (ce : Cell) (L : List Loc), XC E st t ∧ t.heap[q]? = some ce ∧ ce.vm = .none ∧ st.vm.findClass E = some ce.cls ∧ st.WarmedH t.vm ∧ st.sameButNew ({ t with vm := st.vm } : State) L mc ms ∧ ∀ z ∈ L, free z.base
def vx_Q (Qc : Array Value → State → Outcome → State → Prop) (XC : String → State → State → Prop) (mc ms : Nat) (free : Addr → Prop) : Array Value → State → Outcome → State → Prop := fun a st o t =>
  (Qc a st o t ∧ ∃ L, FrameEnd st o t L mc ms ∧ ∀ q ∈ L, free q.base) ∨ ∃ q, o = .threw q ∧ vx_T XC st q t mc ms free
/-- a callee that returns or throws -/
def vx_Met (l : Launch) (y : MethodName) (ws : List Cond) (rm : Room) (Pc : Array Value → State → Prop) (Qc : Array Value → State → Outcome → State → Prop) (XC : String → State → State → Prop) (mc ms : Nat) (free : Addr → Prop) : Prop :=
  MetFree l y (headSpec ws rm) Pc (fun _ _ _ _ _ => True) (vx_Q Qc XC mc ms free)
def vx_Post (XC : String → State → State → Prop) (mc ms : Nat) (free : Addr → Prop) : Pt → Array Value → Addr → Pt → Prop := fun A a q B =>
  ∃ (g : JFrame) (mk : MethodId) (t : State) (L : List Loc) (E : String) (ce : Cell), B.U.heap = t.heap ∧ B.U.vm = t.vm ∧ XC E (A.U.calling g mk a) t ∧ t.heap[q]? = some ce ∧ ce.vm = .none ∧ A.U.vm.findClass E = some ce.cls ∧ B.locs = A.locs ++ L ∧ (∀ z ∈ L, free z.base) ∧ B.cells = A.cells + mc ∧ B.slots = A.slots + ms
def vx_Back (l : Launch) (R : Room) (p : Program) (e : Env) (below : List Frame) (s : State) (sargs : Array Value) (y : MethodName) (len W9 : Nat)
    (Pre : Pt → Array Value → Prop) (Post : Pt → Array Value → Option Value → Pt → Prop) (PostX : Pt → Array Value → Addr → Pt → Prop) : Prop :=
  ∀ (m : MethodId) (meth : Method) (c : Code) (A : Pt) (g : JFrame) (ig : Instr) (mk : MethodId) (a : Array Value),
    Stand p l e R s m sargs below meth c A.U A.locs A.cells A.slots → g.method = m → g.locals.size = c.maxLocals → decode c.code g.pc = .ok (ig, len) →
    2 * g.monitorRoom + (g.stack.map fun v => v.category).sum ≤ W9 → A.U.methodNamed? y = some mk → Pre A a →
    (∃ (v : Option Value) (B : Pt), Stand p l e R s m sargs below meth c B.U B.locs B.cells B.slots ∧ Post A a v B ∧
      Steps p.tables e below (doInvoke e (A.U.setTop g) [] mk a).1 (B.U.setTop { g with pc := g.pc + len, stack := v.toList ++ g.stack })) ∨
    (∃ (q : Addr) (B : Pt), Stand p l e R s m sargs below meth c B.U B.locs B.cells B.slots ∧ PostX A a q B ∧
      Steps p.tables e below (doInvoke e (A.U.setTop g) [] mk a).1 ((B.U.setTop g).pushFrame (.throwing q)))
section Payer
variable {l : Launch} {R : Room} {p : Program} {e : Env} {below : List Frame} {s : State} {sargs : Array Value} {y : MethodName} {len W9 : Nat}
theorem vx_back {ws : List Cond} {rm : Room} {Pc : Array Value → State → Prop} {Qc : Array Value → State → Outcome → State → Prop} {XC : String → State → State → Prop} {mc ms : Nat} {free : Addr → Prop} {bytes : ByteArray} {maxL : Nat} {ret : Option FieldType}
    (hM : vx_Met l y ws rm Pc Qc XC mc ms free) (hblind : FrameBlind Pc) (hrc : rm.cells = mc) (hrs : rm.slots = ms)
    (hframes : rm.frames + 1 ≤ R.frames) (hlocals : W9 + (maxL + 11) + rm.locals ≤ R.locals)
    (hws : ∀ w ∈ ws, ∀ a' U, s.WarmedH U.vm → w.before a' U = true) (hcode : Cond.code y bytes maxL ret ∈ ws) (hinit : ∀ a' U, s.WarmedH U.vm → (Cond.initialized y.cls).before a' U = true) :
    vx_Back l R p e below s sargs y len W9 (PreOf R mc ms Pc) (PostOf Qc mc ms free) (vx_Post XC mc ms free) := by
  intro m meth c A g ig mk a X hg hsize hdg hW hn hp
  have h1 : (headSpec ws rm).pre.before a A.U = true := atoms_intro fun w hw => hws w hw _ _ X.warmed
  have h2 : (Cond.code y bytes maxL ret).before a A.U = true := hws _ hcode _ _ X.warmed
  have h3 : (Cond.initialized y.cls).before a A.U = true := hinit _ _ X.warmed
  have h4 : A.cells + (headSpec ws rm).room.cells ≤ R.cells := by rw [show (headSpec ws rm).room.cells = mc from hrc]; exact hp.1
  have h5 : A.slots + (headSpec ws rm).room.slots ≤ R.slots := by rw [show (headSpec ws rm).room.slots = ms from hrs]; exact hp.2.1
  have hPc : Pc a (A.U.calling g mk a) := hblind _ _ _ _ hp.2.2
  obtain ⟨U, Ls, c0, s0⟩ := A
  dsimp only [Pt.U, Pt.locs, Pt.cells, Pt.slots] at h1 h2 h3 h4 h5 X hn hPc ⊢
  obtain ⟨methY, cY, hmY, hcY, -, hlY, -, -, -, -⟩ := Cond.code_spec hn h2
  obtain ⟨kY, hkY, -⟩ := className_of_methodNamed hn
  have hinitY : kY.init = .initialized := Cond.initialized_spec (findClass_of_methodNamed hn) hkY h3
  have h : At U g.method c below := by rw [hg]; exact X.here
  have hlocals9 : W9 + (maxL + 11) + (headSpec ws rm).room.locals ≤ R.locals := hlocals
  have happ : (headSpec ws rm).appliesLoose y e.platform (U.calling g mk a) = true :=
    Spec.appliesLoose_calling (g := g) h hdg hn hkY hinitY
      (X.room_calling (g := g) (R' := (headSpec ws rm).room) hsize hmY hcY hframes (by rw [hlY]; omega) h4 h5) h1
  obtain ⟨mid, hmid⟩ := h.above
  have hfr : (U.setTop g).frames = (.java g :: mid) ++ below := by rw [State.frames_setTop' g h.top, hmid]; rfl
  obtain ⟨o, s₂, hsteps, -, hend, hq⟩ := Steps.callFree hM p X.admits X.cas X.clock (acts := []) hfr happ hPc trivial
  have hq' : vx_Q Qc XC mc ms free a (U.calling g mk a) o s₂ := hq
  rw [State.frames_setTop' g h.top] at hend
  obtain ⟨g₀, hg0⟩ := Option.isSome_iff_exists.mp h.top
  obtain ⟨r, hr⟩ := State.topJava?_eq_some.mp hg0
  have hr' : (({ U with heap := s₂.heap, slotsUsed := s₂.slotsUsed } : State).setVm s₂.vm).frames = .java g₀ :: r := hr
  rcases hq' with ⟨hqc, L, hfe, hL⟩ | ⟨q, rfl, E, ce, L, hx, hce, hcv, hcl, hW₂, hsm, hL⟩
  · obtain ⟨⟨v, rfl⟩, hW₂, e2, q2, q3, q4, q5, q6⟩ := id hfe
    have e3 : s₂ = ({ (U.calling g mk a).setFrames s₂.frames with heap := s₂.heap, slotsUsed := s₂.slotsUsed } : State).setVm s₂.vm := by
      have : s₂ = ({ s₂ with vm := (U.calling g mk a).vm } : State).setVm s₂.vm := rfl
      rw [e2] at this
      exact this
    obtain ⟨c₂, i₂, len₂, hc₂, hd₂, hf₂⟩ := hend
    have hW' : U.WarmedH s₂.vm := hW₂
    have hcc : c₂ = c := by
      have h1 : s₂.code? g.method = U.code? g.method := by
        rw [State.code?_eq, State.code?_eq, hW'.alike.method?]
      exact Option.some.inj (hc₂.symm.trans (h1.trans h.code))
    subst hcc
    have hlen : len₂ = len := by rw [hdg] at hd₂; cases hd₂; rfl
    subst hlen
    have hs₂ : s₂ = (({ U with heap := s₂.heap, slotsUsed := s₂.slotsUsed } : State).setVm s₂.vm).setTop { g with pc := g.pc + len₂, stack := v.toList ++ g.stack } := by
      refine e3.trans ?_
      rw [hf₂, State.calling_eq h.top, State.setFrames_setFrames, State.setTop_of_frames _ hr', hr]
      rfl
    have hsame : U.sameButNew ({ U with heap := s₂.heap, slotsUsed := s₂.slotsUsed } : State) L mc ms := by
      refine ⟨?_, q2, q3, q4, q5, q6⟩
      obtain ⟨t, ht, -⟩ := State.frames_cons hr
      show ({ U with heap := s₂.heap, slotsUsed := s₂.slotsUsed } : State) = { U.setFrames U.frames with heap := s₂.heap, slotsUsed := s₂.slotsUsed }
      rw [State.setFrames_self ht]
    subst hg
    refine Or.inl ⟨v, ⟨(({ U with heap := s₂.heap, slotsUsed := s₂.slotsUsed } : State).setVm s₂.vm), Ls ++ L, c0 + mc, s0 + ms⟩,
      ⟨X.admits, X.cas, X.clock, X.frames, X.room, X.hears, X.method, X.code, (X.here.setHeapUsed s₂.heap s₂.slotsUsed).setVm hW'.alike, X.tail, State.WarmedH.trans X.warmed hW', X.limits, X.bytes, X.same.trans (hsame.setVm s.vm)⟩,
      ⟨g, mk, s₂, L, rfl, rfl, hqc, rfl, hL, rfl, rfl⟩, ?_⟩
    show Steps p.tables e below _ ((({ U with heap := s₂.heap, slotsUsed := s₂.slotsUsed } : State).setVm s₂.vm).setTop { g with pc := g.pc + len₂, stack := v.toList ++ g.stack })
    rw [← hs₂]
    exact hsteps
  · obtain ⟨e2, q2, q3, q4, q5, q6⟩ := id hsm
    have e3 : s₂ = ({ (U.calling g mk a).setFrames s₂.frames with heap := s₂.heap, slotsUsed := s₂.slotsUsed } : State).setVm s₂.vm := by
      have : s₂ = ({ s₂ with vm := (U.calling g mk a).vm } : State).setVm s₂.vm := rfl
      rw [e2] at this
      exact this
    have hf₂ : s₂.frames = .throwing q :: .java g :: U.frames.tail := hend
    have hW' : U.WarmedH s₂.vm := hW₂
    have hs₂ : s₂ = ((({ U with heap := s₂.heap, slotsUsed := s₂.slotsUsed } : State).setVm s₂.vm).setTop g).pushFrame (.throwing q) := by
      refine e3.trans ?_
      rw [hf₂, State.calling_eq h.top, State.setFrames_setFrames, State.pushFrame, State.frames_setTop _ hr', State.setTop_of_frames _ hr', State.setFrames_setFrames, hr]
      rfl
    have hsame : U.sameButNew ({ U with heap := s₂.heap, slotsUsed := s₂.slotsUsed } : State) L mc ms := by
      refine ⟨?_, q2, q3, q4, q5, q6⟩
      obtain ⟨t, ht, -⟩ := State.frames_cons hr
      show ({ U with heap := s₂.heap, slotsUsed := s₂.slotsUsed } : State) = { U.setFrames U.frames with heap := s₂.heap, slotsUsed := s₂.slotsUsed }
      rw [State.setFrames_self ht]
    subst hg
    refine Or.inr ⟨q, ⟨(({ U with heap := s₂.heap, slotsUsed := s₂.slotsUsed } : State).setVm s₂.vm), Ls ++ L, c0 + mc, s0 + ms⟩,
      ⟨X.admits, X.cas, X.clock, X.frames, X.room, X.hears, X.method, X.code, (X.here.setHeapUsed s₂.heap s₂.slotsUsed).setVm hW'.alike, X.tail, State.WarmedH.trans X.warmed hW', X.limits, X.bytes, X.same.trans (hsame.setVm s.vm)⟩,
      ⟨g, mk, s₂, L, E, ce, rfl, rfl, hx, hce, hcv, hcl, rfl, hL, rfl, rfl⟩, ?_⟩
    show Steps p.tables e below _ (((({ U with heap := s₂.heap, slotsUsed := s₂.slotsUsed } : State).setVm s₂.vm).setTop g).pushFrame (.throwing q))
    rw [← hs₂]
    exact hsteps
end Payer
section Calls
variable {p : Program} {l : Launch} {e : Env} {R : Room} {s : State} {m : MethodId} {args : Array Value} {below : List Frame} {meth : Method} {c : Code} {T : State} {locs : List Loc} {cells slots : Nat}
theorem vx_callV (X : Stand p l e R s m args below meth c T locs cells slots) (hexec : p.tables.exec = Jvm.exec) {own C : String} {index : Nat} {y : MethodName} {bytes : ByteArray} {maxL : Nat} {ret : Option FieldType}
    (hown : s.vm.findClass own = some m.cls) (hlink : (Cond.methodLink own index y).before args s = true) (hinst : (Cond.instanceMethod y).before args s = true) (hsel : (Cond.selects C y y).before args s = true)
    (hcode : (Cond.code y bytes maxL ret).before args s = true) (hy : y.cls ≠ "java/lang/invoke/MethodHandle" ∧ y.cls ≠ "java/lang/invoke/VarHandle")
    {W9 : Nat} {Pre : Pt → Array Value → Prop} {Post : Pt → Array Value → Option Value → Pt → Prop} {PostX : Pt → Array Value → Addr → Pt → Prop} (hK : vx_Back l R p e below s args y 3 W9 Pre Post PostX)
    {b : Addr} {cellB : Cell} (hcell : T.heap[b]? = some cellB) (hobj : cellB.vm.isStatics = false) (hcls : s.vm.findClass C = some cellB.cls)
    {g : JFrame} (hg : g.method = m) (hsize : g.locals.size = c.maxLocals) {argsL rest : List Value} (hlen : ∀ sig, parseMethodDescriptor y.desc = some sig → argsL.length = sig.parameters.length)
    (hstack : g.stack = argsL.reverse ++ .ref b :: rest) (hW : 2 * g.monitorRoom + (rest.map fun v => v.category).sum ≤ W9) (hdg : decode c.code g.pc = .ok (.invokevirtual index, 3))
    (hpre : ∀ vm₁, s.WarmedH vm₁ → Pre ⟨T.setVm vm₁, locs, cells, slots⟩ (Value.ref b :: argsL).toArray) :
    (∃ (v : Option Value) (vm₁ : Vm) (B : Pt), s.WarmedH vm₁ ∧ Stand p l e R s m args below meth c B.U B.locs B.cells B.slots ∧ Post ⟨T.setVm vm₁, locs, cells, slots⟩ (Value.ref b :: argsL).toArray v B ∧
      ∀ target, Steps p.tables e below (B.U.setTop { g with pc := g.pc + 3, stack := v.toList ++ rest }) target → Steps p.tables e below (T.setTop g) target) ∨
    (∃ (q : Addr) (vm₁ : Vm) (B : Pt), s.WarmedH vm₁ ∧ Stand p l e R s m args below meth c B.U B.locs B.cells B.slots ∧ PostX ⟨T.setVm vm₁, locs, cells, slots⟩ (Value.ref b :: argsL).toArray q B ∧
      Steps p.tables e below (T.setTop g) ((B.U.setTop { g with stack := rest }).pushFrame (.throwing q))) := by
  obtain ⟨mk, methM, hnamed, hmethM, hstM, habM⟩ := Cond.instanceMethod_spec hinst
  obtain ⟨methM', cM, hmethM', -, -, -, -, -, -, hsigM⟩ := Cond.code_spec hnamed hcode
  cases hmethM.symm.trans hmethM'
  obtain ⟨c2, r2, m2, q1, q2, q3, q4, kP, hkP, hkPi⟩ := Cond.selects_spec hsel
  cases hcls.symm.trans q1
  cases (State.methodFound?_of_named hnamed hy).symm.trans q2
  cases hnamed.symm.trans q3
  have hselP : selectMethod e.platform s.vm cellB.cls mk = .method mk := by rw [Launch.admits_selectMethod X.admits]; exact q4
  obtain ⟨vm₁, X₁, hstep₁⟩ := X.invokevirtual hexec hown hlink hnamed hmethM hstM hkP hkPi hy (a := b) (cell := cellB) hcell
    (fun z h => by rw [h] at hobj; cases hobj) hselP hmethM habM hkP hkPi (g := g) hg (argsL := argsL) (rest := rest) (hlen _ hsigM) hstack hdg
  rcases hK m meth c ⟨T.setVm vm₁, locs, cells, slots⟩ { g with stack := rest } (.invokevirtual index) mk (Value.ref b :: argsL).toArray X₁ hg hsize hdg hW (X₁.named hnamed) (hpre vm₁ X₁.warmed) with ⟨v, B, X', hpost, hsteps⟩ | ⟨q, B, X', hpost, hsteps⟩
  · exact Or.inl ⟨v, vm₁, B, X₁.warmed, X', hpost, fun target h => hstep₁ _ fun acts => by rw [doInvoke_state]; exact hsteps.trans h⟩
  · exact Or.inr ⟨q, vm₁, B, X₁.warmed, X', hpost, hstep₁ _ fun acts => by rw [doInvoke_state]; exact hsteps⟩
theorem vx_callS (X : Stand p l e R s m args below meth c T locs cells slots) (hexec : p.tables.exec = Jvm.exec) {own : String} {index : Nat} {y : MethodName} {bytes : ByteArray} {maxL : Nat} {ret : Option FieldType}
    (hown : s.vm.findClass own = some m.cls) (hlink : (Cond.methodLink own index y).before args s = true) (hstat : (Cond.static y).before args s = true) (hinit : (Cond.initialized y.cls).before args s = true)
    (hcode : (Cond.code y bytes maxL ret).before args s = true) (hy : y.cls ≠ "java/lang/invoke/MethodHandle" ∧ y.cls ≠ "java/lang/invoke/VarHandle")
    {W9 : Nat} {Pre : Pt → Array Value → Prop} {Post : Pt → Array Value → Option Value → Pt → Prop} {PostX : Pt → Array Value → Addr → Pt → Prop} (hK : vx_Back l R p e below s args y 3 W9 Pre Post PostX)
    {g : JFrame} (hg : g.method = m) (hsize : g.locals.size = c.maxLocals) {argsL rest : List Value} (hlen : ∀ sig, parseMethodDescriptor y.desc = some sig → argsL.length = sig.parameters.length)
    (hstack : g.stack = argsL.reverse ++ rest) (hW : 2 * g.monitorRoom + (rest.map fun v => v.category).sum ≤ W9) (hdg : decode c.code g.pc = .ok (.invokestatic index, 3))
    (hpre : ∀ vm₁, s.WarmedH vm₁ → Pre ⟨T.setVm vm₁, locs, cells, slots⟩ argsL.toArray) :
    (∃ (v : Option Value) (vm₁ : Vm) (B : Pt), s.WarmedH vm₁ ∧ Stand p l e R s m args below meth c B.U B.locs B.cells B.slots ∧ Post ⟨T.setVm vm₁, locs, cells, slots⟩ argsL.toArray v B ∧
      ∀ target, Steps p.tables e below (B.U.setTop { g with pc := g.pc + 3, stack := v.toList ++ rest }) target → Steps p.tables e below (T.setTop g) target) ∨
    (∃ (q : Addr) (vm₁ : Vm) (B : Pt), s.WarmedH vm₁ ∧ Stand p l e R s m args below meth c B.U B.locs B.cells B.slots ∧ PostX ⟨T.setVm vm₁, locs, cells, slots⟩ argsL.toArray q B ∧
      Steps p.tables e below (T.setTop g) ((B.U.setTop { g with stack := rest }).pushFrame (.throwing q))) := by
  obtain ⟨mk, hnamed⟩ := Cond.code_named hcode
  obtain ⟨methM, cM, hmethM, -, -, -, -, -, -, hsigM⟩ := Cond.code_spec hnamed hcode
  have hstatic : methM.isStatic = true := Cond.static_spec hnamed hmethM hstat
  obtain ⟨kP, hkP, -⟩ := className_of_methodNamed hnamed
  have hinitP : kP.init = .initialized := Cond.initialized_spec (findClass_of_methodNamed hnamed) hkP hinit
  obtain ⟨vm₁, X₁, hstep₁⟩ := X.invokestatic hexec hown hlink hnamed hmethM hstatic hkP hinitP hy (g := g) hg (argsL := argsL) (rest := rest) (hlen _ hsigM) hstack hdg
  rcases hK m meth c ⟨T.setVm vm₁, locs, cells, slots⟩ { g with stack := rest } (.invokestatic index) mk argsL.toArray X₁ hg hsize hdg hW (X₁.named hnamed) (hpre vm₁ X₁.warmed) with ⟨v, B, X', hpost, hsteps⟩ | ⟨q, B, X', hpost, hsteps⟩
  · exact Or.inl ⟨v, vm₁, B, X₁.warmed, X', hpost, fun target h => hstep₁ _ fun acts => by rw [doInvoke_state]; exact hsteps.trans h⟩
  · exact Or.inr ⟨q, vm₁, B, X₁.warmed, X', hpost, hstep₁ _ fun acts => by rw [doInvoke_state]; exact hsteps⟩
end Calls
theorem vx_cls {s : State} {T : State} {vm₁ : Vm} {E : String} {k : ClassId} (hW : s.WarmedH vm₁) (h : (T.setVm vm₁).vm.findClass E = some k) : s.vm.findClass E = some k := by
  have h1 : vm₁.findClass E = some k := h
  rw [hW.alike.findClass] at h1
  exact h1
/-- the method's frame g, with q thrown over it -/
def vx_W (p : Program) (l : Launch) (e : Env) (R : Room) (s : State) (m : MethodId) (args : Array Value) (below : List Frame) (meth : Method) (c : Code) (H : Heap) (locs : List Loc) (cells slots : Nat) (Q : State → Prop) (g : JFrame) (q : Addr) : Prop :=
  ∀ T : State, T.heap = H → Stand p l e R s m args below meth c T locs cells slots → ∃ t, Steps p.tables e below ((T.setTop g).pushFrame (.throwing q)) t ∧ Q t
def vx_Run (p : Program) (l : Launch) (e : Env) (R : Room) (s : State) (m : MethodId) (args : Array Value) (below : List Frame) (meth : Method) (c : Code) (H : Heap) (locs : List Loc) (cells slots mc ms : Nat) (g : JFrame) (rest : List Value) (Qa : State → Outcome → State → Prop) (XC : String → State → State → Prop) (free : Addr → Prop) : Prop :=
  ∀ T : State, T.heap = H → Stand p l e R s m args below meth c T locs cells slots →
    (∃ (v : Option Value) (st₀ t T' : State) (L : List Loc), st₀.heap = H ∧ Stand p l e R s m args below meth c T' (locs ++ L) (cells + mc) (slots + ms) ∧ (∀ q ∈ L, free q.base) ∧ T'.heap = t.heap ∧ T'.vm = t.vm ∧ Qa st₀ (.returned v) t ∧
      Goes p e below T g T' { g with pc := g.pc + 3, stack := v.toList ++ rest }) ∨
    (∃ (q : Addr) (st₀ t T' : State) (L : List Loc) (E : String) (ce : Cell), st₀.heap = H ∧ Stand p l e R s m args below meth c T' (locs ++ L) (cells + mc) (slots + ms) ∧ (∀ z ∈ L, free z.base) ∧ T'.heap = t.heap ∧ T'.vm = t.vm ∧ XC E st₀ t ∧ t.heap[q]? = some ce ∧ ce.vm = .none ∧ s.vm.findClass E = some ce.cls ∧
      Steps p.tables e below (T.setTop g) ((T'.setTop { g with stack := rest }).pushFrame (.throwing q)))
def vx_X {S : Type} (px : S → Prop) (B : String → S → State → Prop) (A : Nat → Prop) : String → State → State → Prop := fun E st t => ∃ u : S, px u ∧ B E u t ∧ va_F A st t
section Runs
variable {p : Program} {l : Launch} {e : Env} {R : Room} {s : State} {m : MethodId} {args : Array Value} {below : List Frame} {meth : Method} {c : Code} {H : Heap} {locs : List Loc} {cells slots : Nat}
variable {y : MethodName} {bytes cc : ByteArray} {maxL nL mc ms n index : Nat} {ret : Option FieldType} {ws : List Cond} {rm : Room} {Pc : Array Value → State → Prop} {Qc : Array Value → State → Outcome → State → Prop} {XC : String → State → State → Prop} {free : Addr → Prop} {Ts : List Cond} {own C : String} {b : Addr} {As rest : List Value} {g : JFrame}
theorem vx_callBack (cb : CallB R s args own index y bytes maxL ret ws rm mc ms n) (hM : vx_Met l y ws rm Pc Qc XC mc ms free) (hbl : FrameBlind Pc) : vx_Back l R p e below s args y 3 8 (PreOf R mc ms Pc) (PostOf Qc mc ms free) (vx_Post XC mc ms free) := by
  obtain ⟨hrc, hrs, hfr, hlo, hws, hcw, -, hini, -⟩ := cb
  exact vx_back (bytes := bytes) (maxL := maxL) (ret := ret) hM hbl hrc hrs hfr hlo hws hcw (fun a' U hW => word_at hW (Or.inl (by first | rfl | simp [Cond.onTables, Cond.keeps, Cond.steady])) hini)
theorem vx_runV (S : CallFix p m c cc nL s args Ts own) (hM : vx_Met l y ws rm Pc Qc XC mc ms free) (cw : CallW R s args own C index y bytes maxL ret ws rm mc ms n) (hp : PreV s H C b Pc As)
    (hg : g.method = m) (hn : As.length = n) (hsize : g.locals.size = nL) (hstack : g.stack = As.reverse ++ .ref b :: rest) (hW : 2 * g.monitorRoom + (rest.map fun v => v.category).sum ≤ 8) (hdg : decode cc g.pc = .ok (.invokevirtual index, 3)) (hf : cells + mc ≤ R.cells ∧ slots + ms ≤ R.slots) :
    vx_Run p l e R s m args below meth c H locs cells slots mc ms g rest (Qc (Value.ref b :: As).toArray) XC free := by
  have hK : vx_Back l R p e below s args y 3 8 (PreOf R mc ms Pc) (PostOf Qc mc ms free) (vx_Post XC mc ms free) := vx_callBack cw.1 hM hp.1
  obtain ⟨⟨-, -, -, -, -, -, hcode, -, hy, hlen, hl⟩, hin, hse⟩ := cw
  obtain ⟨hx, hb, hml, ho, -⟩ := S
  obtain ⟨-, ⟨cellB, hcB, hoB, hclB⟩, hPc⟩ := hp
  intro T hT X
  rcases vx_callV X hx (C := C) (bytes := bytes) (maxL := maxL) (ret := ret) ho hl hin hse hcode hy hK (by rw [hT]; exact hcB) hoB hclB hg (hsize.trans hml.symm) (argsL := As) (rest := rest) (fun sig h => hn.trans (hlen sig h)) hstack hW (by rw [hb]; exact hdg)
    (fun vm₁ hW₁ => ⟨hf.1, hf.2, hPc (T.setVm vm₁) hT hW₁⟩) with ⟨v, vm₁, ⟨U', l2, c2, s2⟩, hW₁, X', ⟨g', mk, t, L, e1, e2, hq, h1, hL, h2, h3⟩, st⟩ | ⟨q, vm₁, ⟨U', l2, c2, s2⟩, hW₁, X', ⟨g', mk, t, L, E, ce, e1, e2, hq, hce, hcv, hcl, h1, hL, h2, h3⟩, st⟩
  · dsimp only [Pt.U, Pt.locs, Pt.cells, Pt.slots] at X' e1 e2 h1 h2 h3 st
    subst h1; subst h2; subst h3
    exact Or.inl ⟨v, (T.setVm vm₁).calling g' mk (Value.ref b :: As).toArray, t, U', L, hT, X', hL, e1, e2, hq, st⟩
  · dsimp only [Pt.U, Pt.locs, Pt.cells, Pt.slots] at X' e1 e2 h1 h2 h3 st hcl
    subst h1; subst h2; subst h3
    exact Or.inr ⟨q, (T.setVm vm₁).calling g' mk (Value.ref b :: As).toArray, t, U', L, E, ce, hT, X', hL, e1, e2, hq, hce, hcv, vx_cls hW₁ hcl, st⟩
theorem vx_runS (S : CallFix p m c cc nL s args Ts own) (hM : vx_Met l y ws rm Pc Qc XC mc ms free) (cw : CallB R s args own index y bytes maxL ret ws rm mc ms n ∧ (Cond.static y).before args s = true) (hp : PreS s H Pc As)
    (hg : g.method = m) (hn : As.length = n) (hsize : g.locals.size = nL) (hstack : g.stack = As.reverse ++ rest) (hW : 2 * g.monitorRoom + (rest.map fun v => v.category).sum ≤ 8) (hdg : decode cc g.pc = .ok (.invokestatic index, 3)) (hf : cells + mc ≤ R.cells ∧ slots + ms ≤ R.slots) :
    vx_Run p l e R s m args below meth c H locs cells slots mc ms g rest (Qc As.toArray) XC free := by
  have hK : vx_Back l R p e below s args y 3 8 (PreOf R mc ms Pc) (PostOf Qc mc ms free) (vx_Post XC mc ms free) := vx_callBack cw.1 hM hp.1
  obtain ⟨⟨-, -, -, -, -, -, hcode, hini, hy, hlen, hl⟩, hstt⟩ := cw
  obtain ⟨hx, hb, hml, ho, -⟩ := S
  intro T hT X
  rcases vx_callS X hx (bytes := bytes) (maxL := maxL) (ret := ret) ho hl hstt hini hcode hy hK hg (hsize.trans hml.symm) (argsL := As) (rest := rest) (fun sig h => hn.trans (hlen sig h)) hstack hW (by rw [hb]; exact hdg)
    (fun vm₁ hW₁ => ⟨hf.1, hf.2, hp.2 (T.setVm vm₁) hT hW₁⟩) with ⟨v, vm₁, ⟨U', l2, c2, s2⟩, hW₁, X', ⟨g', mk, t, L, e1, e2, hq, h1, hL, h2, h3⟩, st⟩ | ⟨q, vm₁, ⟨U', l2, c2, s2⟩, hW₁, X', ⟨g', mk, t, L, E, ce, e1, e2, hq, hce, hcv, hcl, h1, hL, h2, h3⟩, st⟩
  · dsimp only [Pt.U, Pt.locs, Pt.cells, Pt.slots] at X' e1 e2 h1 h2 h3 st
    subst h1; subst h2; subst h3
    exact Or.inl ⟨v, (T.setVm vm₁).calling g' mk As.toArray, t, U', L, hT, X', hL, e1, e2, hq, st⟩
  · dsimp only [Pt.U, Pt.locs, Pt.cells, Pt.slots] at X' e1 e2 h1 h2 h3 st hcl
    subst h1; subst h2; subst h3
    exact Or.inr ⟨q, (T.setVm vm₁).calling g' mk As.toArray, t, U', L, E, ce, hT, X', hL, e1, e2, hq, hce, hcv, vx_cls hW₁ hcl, st⟩
end Runs
section Rows
variable {p : Program} {l : Launch} {e : Env} {R : Room} {s : State} {m : MethodId} {args : Array Value} {below : List Frame} {meth : Method} {c : Code} {H : Heap} {locs : List Loc} {cells slots : Nat} {Q : State → Prop}
variable {mc ms : Nat} {free : Addr → Prop} {A0 A1 : Nat → Prop} {H0 : Heap} {a : Array Value} {pc : Nat} {ls : Array Slot} {st0 rest : List Value}
theorem vx_keep {st₀ t T' : State} {L : List Loc} (h0 : st₀.heap = H) (e1 : T'.heap = t.heap) (hS : va_S A0 H0 H locs) (hA : ∀ q, q < H.size → A1 q → A0 q) (hf : ∀ q, free q → A0 q) (hL : ∀ q ∈ L, free q.base) (hF : va_F A1 st₀ t) :
    H.size ≤ T'.heap.size ∧ (∀ q : Nat, q < H.size → ¬ A1 q → T'.heap[q]? = H[q]?) ∧ va_S A0 H0 T'.heap (locs ++ L) := by
  obtain ⟨hz, hk⟩ := hF
  rw [h0] at hz hk
  exact ⟨by rw [e1]; exact hz, fun q h1 h2 => by rw [e1]; exact hk q h1 h2,
    ⟨Nat.le_trans hS.1 (by rw [e1]; exact hz), fun q h1 h2 => by rw [e1, hk q (Nat.lt_of_lt_of_le h1 hS.1) (fun z => h2 (hA q (Nat.lt_of_lt_of_le h1 hS.1) z))]; exact hS.2.1 q h1 h2, fun q hq => by
      rcases List.mem_append.mp hq with h | h
      · exact hS.2.2 q h
      · exact hf _ (hL q h)⟩⟩
theorem vx_calli {S SX : Type} {post : Int32 → S → Prop} {px : SX → Prop} {B : S → State → Prop} {BX : String → SX → State → Prop} {AX : Nat → Prop} (hr : vx_Run p l e R s m args below meth c H locs cells slots mc ms (F0 m pc ls st0) rest (va_Qi post B A1 a) (vx_X px BX AX) free) (hS : va_S A0 H0 H locs) (hA : ∀ q, q < H.size → A1 q → A0 q) (hf : ∀ q, free q → A0 q) (hAX : ∀ q, q < H.size → AX q → A0 q)
    (kx : ∀ (E : String) (ce : Cell) (q9 : Addr) (u : SX) (t : State) (H1 : Heap) (locs1 : List Loc), t.heap = H1 → s.vm.Alike t.vm → px u → BX E u t → H.size ≤ H1.size → (∀ q : Nat, q < H.size → ¬ AX q → H1[q]? = H[q]?) → va_S A0 H0 H1 locs1 → H1[q9]? = some ce → ce.vm = .none → s.vm.findClass E = some ce.cls → vx_W p l e R s m args below meth c H1 locs1 (cells + mc) (slots + ms) Q (F0 m pc ls rest) q9)
    (kk : ∀ (r : Int32) (u : S) (t : State) (H1 : Heap) (locs1 : List Loc), t.heap = H1 → s.vm.Alike t.vm → post r u → B u t → H.size ≤ H1.size → (∀ q : Nat, q < H.size → ¬ A1 q → H1[q]? = H[q]?) → va_S A0 H0 H1 locs1 → W p l e R s m args below meth c H1 locs1 (cells + mc) (slots + ms) Q (F0 m (pc + 3) ls (.int r :: rest))) : W p l e R s m args below meth c H locs cells slots Q (F0 m pc ls st0) := by
  intro T hT X
  rcases hr T hT X with ⟨v, st₀, t, T', L, h0, X', hL, e1, e2, ⟨⟨r, u, hv, hp, hb⟩, hF⟩, st⟩ | ⟨q, st₀, t, T', L, E, ce, h0, X', hL, e1, e2, ⟨u, hp, hb, hF⟩, hce, hcv, hcl, st⟩
  · cases hv
    obtain ⟨k1, k2, k3⟩ := vx_keep h0 e1 hS hA hf hL hF
    obtain ⟨t2, a1, b1⟩ := kk r u t T'.heap (locs ++ L) e1.symm (by rw [← e2]; exact X'.warmed.alike) hp hb k1 k2 k3 T' rfl X'
    exact ⟨t2, st t2 a1, b1⟩
  · obtain ⟨k1, k2, k3⟩ := vx_keep h0 e1 hS hAX hf hL hF
    obtain ⟨t2, a1, b1⟩ := kx E ce q u t T'.heap (locs ++ L) e1.symm (by rw [← e2]; exact X'.warmed.alike) hp hb k1 k2 k3 (by rw [e1]; exact hce) hcv hcl T' rfl X'
    exact ⟨t2, st.trans a1, b1⟩
theorem vx_calll {S SX : Type} {post : Int64 → S → Prop} {px : SX → Prop} {B : S → State → Prop} {BX : String → SX → State → Prop} {AX : Nat → Prop} (hr : vx_Run p l e R s m args below meth c H locs cells slots mc ms (F0 m pc ls st0) rest (va_Ql post B A1 a) (vx_X px BX AX) free) (hS : va_S A0 H0 H locs) (hA : ∀ q, q < H.size → A1 q → A0 q) (hf : ∀ q, free q → A0 q) (hAX : ∀ q, q < H.size → AX q → A0 q)
    (kx : ∀ (E : String) (ce : Cell) (q9 : Addr) (u : SX) (t : State) (H1 : Heap) (locs1 : List Loc), t.heap = H1 → s.vm.Alike t.vm → px u → BX E u t → H.size ≤ H1.size → (∀ q : Nat, q < H.size → ¬ AX q → H1[q]? = H[q]?) → va_S A0 H0 H1 locs1 → H1[q9]? = some ce → ce.vm = .none → s.vm.findClass E = some ce.cls → vx_W p l e R s m args below meth c H1 locs1 (cells + mc) (slots + ms) Q (F0 m pc ls rest) q9)
    (kk : ∀ (r : Int64) (u : S) (t : State) (H1 : Heap) (locs1 : List Loc), t.heap = H1 → s.vm.Alike t.vm → post r u → B u t → H.size ≤ H1.size → (∀ q : Nat, q < H.size → ¬ A1 q → H1[q]? = H[q]?) → va_S A0 H0 H1 locs1 → W p l e R s m args below meth c H1 locs1 (cells + mc) (slots + ms) Q (F0 m (pc + 3) ls (.long r :: rest))) : W p l e R s m args below meth c H locs cells slots Q (F0 m pc ls st0) := by
  intro T hT X
  rcases hr T hT X with ⟨v, st₀, t, T', L, h0, X', hL, e1, e2, ⟨⟨r, u, hv, hp, hb⟩, hF⟩, st⟩ | ⟨q, st₀, t, T', L, E, ce, h0, X', hL, e1, e2, ⟨u, hp, hb, hF⟩, hce, hcv, hcl, st⟩
  · cases hv
    obtain ⟨k1, k2, k3⟩ := vx_keep h0 e1 hS hA hf hL hF
    obtain ⟨t2, a1, b1⟩ := kk r u t T'.heap (locs ++ L) e1.symm (by rw [← e2]; exact X'.warmed.alike) hp hb k1 k2 k3 T' rfl X'
    exact ⟨t2, st t2 a1, b1⟩
  · obtain ⟨k1, k2, k3⟩ := vx_keep h0 e1 hS hAX hf hL hF
    obtain ⟨t2, a1, b1⟩ := kx E ce q u t T'.heap (locs ++ L) e1.symm (by rw [← e2]; exact X'.warmed.alike) hp hb k1 k2 k3 (by rw [e1]; exact hce) hcv hcl T' rfl X'
    exact ⟨t2, st.trans a1, b1⟩
theorem vx_callf {S SX : Type} {post : UInt32 → S → Prop} {px : SX → Prop} {B : S → State → Prop} {BX : String → SX → State → Prop} {AX : Nat → Prop} (hr : vx_Run p l e R s m args below meth c H locs cells slots mc ms (F0 m pc ls st0) rest (va_Qf post B A1 a) (vx_X px BX AX) free) (hS : va_S A0 H0 H locs) (hA : ∀ q, q < H.size → A1 q → A0 q) (hf : ∀ q, free q → A0 q) (hAX : ∀ q, q < H.size → AX q → A0 q)
    (kx : ∀ (E : String) (ce : Cell) (q9 : Addr) (u : SX) (t : State) (H1 : Heap) (locs1 : List Loc), t.heap = H1 → s.vm.Alike t.vm → px u → BX E u t → H.size ≤ H1.size → (∀ q : Nat, q < H.size → ¬ AX q → H1[q]? = H[q]?) → va_S A0 H0 H1 locs1 → H1[q9]? = some ce → ce.vm = .none → s.vm.findClass E = some ce.cls → vx_W p l e R s m args below meth c H1 locs1 (cells + mc) (slots + ms) Q (F0 m pc ls rest) q9)
    (kk : ∀ (r : UInt32) (u : S) (t : State) (H1 : Heap) (locs1 : List Loc), t.heap = H1 → s.vm.Alike t.vm → post r u → B u t → H.size ≤ H1.size → (∀ q : Nat, q < H.size → ¬ A1 q → H1[q]? = H[q]?) → va_S A0 H0 H1 locs1 → W p l e R s m args below meth c H1 locs1 (cells + mc) (slots + ms) Q (F0 m (pc + 3) ls (.float r :: rest))) : W p l e R s m args below meth c H locs cells slots Q (F0 m pc ls st0) := by
  intro T hT X
  rcases hr T hT X with ⟨v, st₀, t, T', L, h0, X', hL, e1, e2, ⟨⟨r, u, hv, hp, hb⟩, hF⟩, st⟩ | ⟨q, st₀, t, T', L, E, ce, h0, X', hL, e1, e2, ⟨u, hp, hb, hF⟩, hce, hcv, hcl, st⟩
  · cases hv
    obtain ⟨k1, k2, k3⟩ := vx_keep h0 e1 hS hA hf hL hF
    obtain ⟨t2, a1, b1⟩ := kk r u t T'.heap (locs ++ L) e1.symm (by rw [← e2]; exact X'.warmed.alike) hp hb k1 k2 k3 T' rfl X'
    exact ⟨t2, st t2 a1, b1⟩
  · obtain ⟨k1, k2, k3⟩ := vx_keep h0 e1 hS hAX hf hL hF
    obtain ⟨t2, a1, b1⟩ := kx E ce q u t T'.heap (locs ++ L) e1.symm (by rw [← e2]; exact X'.warmed.alike) hp hb k1 k2 k3 (by rw [e1]; exact hce) hcv hcl T' rfl X'
    exact ⟨t2, st.trans a1, b1⟩
theorem vx_calld {S SX : Type} {post : UInt64 → S → Prop} {px : SX → Prop} {B : S → State → Prop} {BX : String → SX → State → Prop} {AX : Nat → Prop} (hr : vx_Run p l e R s m args below meth c H locs cells slots mc ms (F0 m pc ls st0) rest (va_Qd post B A1 a) (vx_X px BX AX) free) (hS : va_S A0 H0 H locs) (hA : ∀ q, q < H.size → A1 q → A0 q) (hf : ∀ q, free q → A0 q) (hAX : ∀ q, q < H.size → AX q → A0 q)
    (kx : ∀ (E : String) (ce : Cell) (q9 : Addr) (u : SX) (t : State) (H1 : Heap) (locs1 : List Loc), t.heap = H1 → s.vm.Alike t.vm → px u → BX E u t → H.size ≤ H1.size → (∀ q : Nat, q < H.size → ¬ AX q → H1[q]? = H[q]?) → va_S A0 H0 H1 locs1 → H1[q9]? = some ce → ce.vm = .none → s.vm.findClass E = some ce.cls → vx_W p l e R s m args below meth c H1 locs1 (cells + mc) (slots + ms) Q (F0 m pc ls rest) q9)
    (kk : ∀ (r : UInt64) (u : S) (t : State) (H1 : Heap) (locs1 : List Loc), t.heap = H1 → s.vm.Alike t.vm → post r u → B u t → H.size ≤ H1.size → (∀ q : Nat, q < H.size → ¬ A1 q → H1[q]? = H[q]?) → va_S A0 H0 H1 locs1 → W p l e R s m args below meth c H1 locs1 (cells + mc) (slots + ms) Q (F0 m (pc + 3) ls (.double r :: rest))) : W p l e R s m args below meth c H locs cells slots Q (F0 m pc ls st0) := by
  intro T hT X
  rcases hr T hT X with ⟨v, st₀, t, T', L, h0, X', hL, e1, e2, ⟨⟨r, u, hv, hp, hb⟩, hF⟩, st⟩ | ⟨q, st₀, t, T', L, E, ce, h0, X', hL, e1, e2, ⟨u, hp, hb, hF⟩, hce, hcv, hcl, st⟩
  · cases hv
    obtain ⟨k1, k2, k3⟩ := vx_keep h0 e1 hS hA hf hL hF
    obtain ⟨t2, a1, b1⟩ := kk r u t T'.heap (locs ++ L) e1.symm (by rw [← e2]; exact X'.warmed.alike) hp hb k1 k2 k3 T' rfl X'
    exact ⟨t2, st t2 a1, b1⟩
  · obtain ⟨k1, k2, k3⟩ := vx_keep h0 e1 hS hAX hf hL hF
    obtain ⟨t2, a1, b1⟩ := kx E ce q u t T'.heap (locs ++ L) e1.symm (by rw [← e2]; exact X'.warmed.alike) hp hb k1 k2 k3 (by rw [e1]; exact hce) hcv hcl T' rfl X'
    exact ⟨t2, st.trans a1, b1⟩
theorem vx_callv {S SX : Type} {post : S → Prop} {px : SX → Prop} {B : S → State → Prop} {BX : String → SX → State → Prop} {AX : Nat → Prop} (hr : vx_Run p l e R s m args below meth c H locs cells slots mc ms (F0 m pc ls st0) rest (va_Qv post B A1 a) (vx_X px BX AX) free) (hS : va_S A0 H0 H locs) (hA : ∀ q, q < H.size → A1 q → A0 q) (hf : ∀ q, free q → A0 q) (hAX : ∀ q, q < H.size → AX q → A0 q)
    (kx : ∀ (E : String) (ce : Cell) (q9 : Addr) (u : SX) (t : State) (H1 : Heap) (locs1 : List Loc), t.heap = H1 → s.vm.Alike t.vm → px u → BX E u t → H.size ≤ H1.size → (∀ q : Nat, q < H.size → ¬ AX q → H1[q]? = H[q]?) → va_S A0 H0 H1 locs1 → H1[q9]? = some ce → ce.vm = .none → s.vm.findClass E = some ce.cls → vx_W p l e R s m args below meth c H1 locs1 (cells + mc) (slots + ms) Q (F0 m pc ls rest) q9)
    (kk : ∀ (u : S) (t : State) (H1 : Heap) (locs1 : List Loc), t.heap = H1 → s.vm.Alike t.vm → post u → B u t → H.size ≤ H1.size → (∀ q : Nat, q < H.size → ¬ A1 q → H1[q]? = H[q]?) → va_S A0 H0 H1 locs1 → W p l e R s m args below meth c H1 locs1 (cells + mc) (slots + ms) Q (F0 m (pc + 3) ls (rest))) : W p l e R s m args below meth c H locs cells slots Q (F0 m pc ls st0) := by
  intro T hT X
  rcases hr T hT X with ⟨v, st₀, t, T', L, h0, X', hL, e1, e2, ⟨⟨u, hv, hp, hb⟩, hF⟩, st⟩ | ⟨q, st₀, t, T', L, E, ce, h0, X', hL, e1, e2, ⟨u, hp, hb, hF⟩, hce, hcv, hcl, st⟩
  · cases hv
    obtain ⟨k1, k2, k3⟩ := vx_keep h0 e1 hS hA hf hL hF
    obtain ⟨t2, a1, b1⟩ := kk u t T'.heap (locs ++ L) e1.symm (by rw [← e2]; exact X'.warmed.alike) hp hb k1 k2 k3 T' rfl X'
    exact ⟨t2, st t2 a1, b1⟩
  · obtain ⟨k1, k2, k3⟩ := vx_keep h0 e1 hS hAX hf hL hF
    obtain ⟨t2, a1, b1⟩ := kx E ce q u t T'.heap (locs ++ L) e1.symm (by rw [← e2]; exact X'.warmed.alike) hp hb k1 k2 k3 (by rw [e1]; exact hce) hcv hcl T' rfl X'
    exact ⟨t2, st.trans a1, b1⟩
end Rows
section Ends
variable {p : Program} {l : Launch} {e : Env} {R : Room} {s : State} {m : MethodId} {args : Array Value} {below : List Frame} {meth : Method} {c : Code} {H : Heap} {locs : List Loc} {cells slots : Nat} {Q : State → Prop}
variable {mc ms : Nat} {free : Addr → Prop} {A0 A1 : Nat → Prop} {H0 : Heap} {a : Array Value} {ls : Array Slot} {st0 rest : List Value}
variable {Qc : Array Value → State → Outcome → State → Prop} {XC : String → State → State → Prop}
/-- what a body that may throw owes at its end -/
def vx_MQ (below : List Frame) (Qc : Array Value → State → Outcome → State → Prop) (XC : String → State → State → Prop) (a : Array Value) (s : State) (mc ms : Nat) (free : Addr → Prop) : State → Prop := fun t =>
  ∃ o, t.status = .running ∧ Ended t below o ∧ vx_Q Qc XC mc ms free a s o t
theorem vx_ret {g : JFrame} {mc ms : Nat} (k : W p l e R s m args below meth c H locs cells slots (MQ below Qc args s mc ms free) g) : W p l e R s m args below meth c H locs cells slots (vx_MQ below Qc XC args s mc ms free) g := by
  intro T hT X
  obtain ⟨t, a1, o, b1, b2, b3, b4⟩ := k T hT X
  exact ⟨t, a1, o, b1, b2, Or.inl ⟨b3, b4⟩⟩
/-- not caught here: it goes on to the caller -/
theorem vx_widen {g : JFrame} {q : Addr} {k n : Nat} (h1 : cells ≤ k) (h2 : slots ≤ n) (kk : vx_W p l e R s m args below meth c H locs k n Q g q) : vx_W p l e R s m args below meth c H locs cells slots Q g q := fun T hT X => kk T hT (stand_widen X h1 h2)
theorem vx_out {pc : Nat} {E : String} {ce : Cell} {q : Addr} {mc ms : Nat} (hout : ∀ x ∈ c.exceptionTable.toList, covers x pc = false) (hlocks : meth.locks = false) (hcell : H[q]? = some ce) (hv : ce.vm = .none) (hcl : s.vm.findClass E = some ce.cls)
    (hx : ∀ t : State, t.heap = H → s.vm.Alike t.vm → XC E s t) (hf : ∀ z ∈ locs, free z.base) (hc : cells ≤ mc) (hs : slots ≤ ms) :
    vx_W p l e R s m args below meth c H locs cells slots (vx_MQ below Qc XC args s mc ms free) (F0 m pc ls rest) q := by
  intro T hT X
  obtain ⟨st1, hrun, hend, hW, hsm⟩ := X.leaveThrown q (g := F0 m pc ls rest) rfl rfl rfl hout hlocks
  have hcell9 : (T.setFrames (.throwing q :: below)).heap[q]? = some ce := by
    show T.heap[q]? = some ce
    rw [hT]; exact hcell
  exact ⟨_, st1, .threw q, hrun, hend, Or.inr ⟨q, rfl, E, ce, locs, hx _ hT hW.alike, hcell9, hv, hcl, hW, hsm.mono hc hs, hf⟩⟩
theorem vx_frame {U : State} {k n : Nat} (h : s.sameButNew ({ U with vm := s.vm } : State) locs k n) : s.heap.size ≤ U.heap.size ∧ ∀ q : Nat, q < s.heap.size → (∀ z ∈ locs, z.base ≠ q) → U.heap[q]? = s.heap[q]? := by
  obtain ⟨-, h2, -, -, -, h6⟩ := h
  refine ⟨h2, fun q hq hz => ?_⟩
  obtain ⟨c9, e1, e2, e3, e4⟩ := h6 q _ (Array.getElem?_eq_getElem hq)
  have hs : c9.slots = (s.heap[q]).slots := Array.ext_getElem? fun i => e4 i fun hm => hz _ hm rfl
  have h9 : c9 = s.heap[q] := by
    rw [hs] at e2
    exact e2
  have e5 : U.heap[q]? = some c9 := e1
  rw [e5, h9, Array.getElem?_eq_getElem hq]
/-- the words of a throw but the four that speak of the heap -/
def vx_no (w : Cond) : Bool := decide (w ≠ .isRef (.static Bundle.tN "UNASSIGNED_STACK" Bundle.steD)) && decide (w ≠ .isRef (.static Bundle.tN "SUPPRESSED_SENTINEL" Bundle.listD)) && decide (w ≠ .laysStatic Bundle.tN "UNASSIGNED_STACK" Bundle.steD) && decide (w ≠ .laysStatic Bundle.tN "SUPPRESSED_SENTINEL" Bundle.listD)
def vx_at0 (own : String) (ic : Nat) (X : String) (names : List String) : List Cond := (Bundle.ownAtoms0 own ic X names).filter vx_no
def vx_atS (own : String) (ic : Nat) (X : String) (names : List String) : List Cond := (Bundle.ownAtoms own ic X names).filter vx_no
/-- a word that the tables alone decide, or a good one -/
def vx_ot (w : Cond) : Bool := w.onTables || goodWord w
theorem vx_ot_at {args a' : Array Value} {s U : State} {w : Cond} (hW : s.WarmedH U.vm) (hvm : s.vm = U.vm) (hg : vx_ot w = true) (h : w.before args s = true) : w.before a' U = true := by
  simp only [vx_ot, Bool.or_eq_true] at hg
  rcases hg with hg | hg
  · exact va_tabs hg hvm h
  · exact word_at hW (good_of_word hg) h
/-- a list's words: the good ones out of the method's own list, the others by premises of their own -/
theorem vx_hat {args : Array Value} {s : State} {L B : List Cond} (h1 : ∀ w ∈ L.filter goodWord, w.before args s = true) (h2 : ∀ w ∈ L.filter (fun w => !goodWord w), w ∈ B) (h3 : ∀ w ∈ B, w.before args s = true) : ∀ w ∈ L, w.before args s = true := by
  intro w hw
  by_cases g : goodWord w = true
  · exact h1 w (List.mem_filter.mpr ⟨hw, g⟩)
  · refine h3 w (h2 w (List.mem_filter.mpr ⟨hw, ?_⟩))
    show (!goodWord w) = true
    cases hgw : goodWord w
    · rfl
    · exact absurd hgw g
theorem vx_c {args : Array Value} {s : State} {w : Cond} {B : List Cond} (h : w.before args s = true) (t : ∀ w ∈ B, w.before args s = true) : ∀ w' ∈ w :: B, w'.before args s = true := fun w' h' => (List.mem_cons.mp h').elim (fun e => by rw [e]; exact h) (t w')
theorem vx_n {args : Array Value} {s : State} : ∀ w ∈ ([] : List Cond), w.before args s = true := fun _ h => nomatch h
theorem vx_own {args : Array Value} {s : State} {L : List Cond} (h1 : ∀ w ∈ L.filter vx_no, w.before args s = true)
    (hU : (Cond.isRef (.static Bundle.tN "UNASSIGNED_STACK" Bundle.steD)).before args s = true) (hN : (Cond.isRef (.static Bundle.tN "SUPPRESSED_SENTINEL" Bundle.listD)).before args s = true)
    (lU : (Cond.laysStatic Bundle.tN "UNASSIGNED_STACK" Bundle.steD).before args s = true) (lN : (Cond.laysStatic Bundle.tN "SUPPRESSED_SENTINEL" Bundle.listD).before args s = true) : ∀ w ∈ L, w.before args s = true := by
  intro w hw
  by_cases e1 : w = .isRef (.static Bundle.tN "UNASSIGNED_STACK" Bundle.steD)
  · rw [e1]; exact hU
  · by_cases e2 : w = .isRef (.static Bundle.tN "SUPPRESSED_SENTINEL" Bundle.listD)
    · rw [e2]; exact hN
    · by_cases e3 : w = .laysStatic Bundle.tN "UNASSIGNED_STACK" Bundle.steD
      · rw [e3]; exact lU
      · by_cases e4 : w = .laysStatic Bundle.tN "SUPPRESSED_SENTINEL" Bundle.listD
        · rw [e4]; exact lN
        · exact h1 w (List.mem_filter.mpr ⟨hw, by unfold vx_no; rw [decide_eq_true e1, decide_eq_true e2, decide_eq_true e3, decide_eq_true e4]; rfl⟩)
/-- where a static field lies, its class's statics cell in H -/
def vx_L (C n d : String) (A : Nat → Prop) (U : State) (H : Heap) : Prop := ∃ (c : ClassId) (k : Class) (i : Nat) (f : Field) (a : Nat) (cell : Cell), U.vm.findClass C = some c ∧ U.fieldFound? C n d = some (c, k, i, f) ∧ f.isStatic = true ∧ k.statics = some a ∧ H[a]? = some cell ∧ cell.vm.isStatics = true ∧ cell.cls = c ∧ f.slot < cell.slots.size ∧ k.staticTypes[f.slot]? = some f.type ∧ ¬ A a
theorem vx_L.moved {C n d : String} {A : Nat → Prop} {u U : State} {H : Heap} (hvm : u.vm.Alike U.vm) (h : vx_L C n d A u H) : vx_L C n d A U H := by
  obtain ⟨c, k, i, f, a, cell, h1, h2, h3, h4, h5, h6, h7, h8, h9, h10⟩ := h
  obtain ⟨k', hi', he⟩ := State.fieldFound?_setVm hvm h2
  exact ⟨c, k', i, f, a, cell, by rw [hvm.findClass]; exact h1, hi', h3, by rw [he]; exact h4, h5, h6, h7, h8, by rw [he]; exact h9, h10⟩
theorem vx_L.kept {C n d : String} {A : Nat → Prop} {U : State} {H H1 : Heap} (h : vx_L C n d A U H) (hq : ∀ a : Nat, a < H.size → ¬ A a → H1[a]? = H[a]?) : vx_L C n d A U H1 := by
  obtain ⟨c, k, i, f, a, cell, h1, h2, h3, h4, h5, h6, h7, h8, h9, h10⟩ := h
  exact ⟨c, k, i, f, a, cell, h1, h2, h3, h4, by rw [hq a (Array.getElem?_eq_some_iff.mp h5).1 h10]; exact h5, h6, h7, h8, h9, h10⟩
theorem vx_L.narrow {C n d : String} {A B : Nat → Prop} {U : State} {H : Heap} (h : vx_L C n d A U H) (hAB : ∀ q, B q → A q) : vx_L C n d B U H := by
  obtain ⟨c, k, i, f, a, cell, h1, h2, h3, h4, h5, h6, h7, h8, h9, h10⟩ := h
  exact ⟨c, k, i, f, a, cell, h1, h2, h3, h4, h5, h6, h7, h8, h9, fun z => h10 (hAB _ z)⟩
theorem vx_L.word {C n d : String} {A : Nat → Prop} {s : State} {args : Array Value} (h : vx_L C n d A s s.heap) : (Cond.laysStatic C n d).before args s = true := by
  obtain ⟨c, k, i, f, a, cell, h1, h2, h3, h4, h5, h6, h7, h8, h9, -⟩ := h
  show (Cond.laysStatic C n d).holds args s none s [] = true
  exact Cond.laysStatic_of h1 h2 h3 h4 h5 h6 h7 h8 h9
/-- .. and what it holds: null or some reference -/
def vx_Zq (C n d : String) (A : Nat → Prop) (U : State) (H : Heap) : Prop := va_Zq C n d A U H ∧ vx_L C n d A U H
theorem vx_Zq.moved {C n d : String} {A : Nat → Prop} {u U : State} {H : Heap} (hvm : u.vm.Alike U.vm) (h : vx_Zq C n d A u H) : vx_Zq C n d A U H := ⟨va_Zq.moved hvm h.1, vx_L.moved hvm h.2⟩
theorem vx_Zq.kept {C n d : String} {A : Nat → Prop} {U : State} {H H1 : Heap} (h : vx_Zq C n d A U H) (hq : ∀ a : Nat, a < H.size → ¬ A a → H1[a]? = H[a]?) : vx_Zq C n d A U H1 := ⟨va_Zq.kept h.1 hq, vx_L.kept h.2 hq⟩
theorem vx_Zq.narrow {C n d : String} {A B : Nat → Prop} {U : State} {H : Heap} (h : vx_Zq C n d A U H) (hAB : ∀ q, B q → A q) : vx_Zq C n d B U H := ⟨va_Zq.narrow h.1 hAB, vx_L.narrow h.2 hAB⟩
theorem vx_Zqof {args : Array Value} {s : State} {C n d : String} {A : Nat → Prop} (hl : (Cond.laysStatic C n d).before args s = true) (hini : (Cond.initialized C).before args s = true) (h : (Cond.isRef (.static C n d)).before args s = true) (hA : ∀ a : Nat, a < s.heap.size → ¬ A a) : vx_Zq C n d A s s.heap := by
  refine ⟨va_Zqof hl hini h hA, ?_⟩
  obtain ⟨c, k, i, f, a, cell, h1, h2, h3, h4, h5, h6, h7, h8, h9⟩ := Cond.laysStatic_spec hl
  exact ⟨c, k, i, f, a, cell, h1, h2, h3, h4, h5, h6, h7, h8, h9, hA a (Array.getElem?_eq_some_iff.mp h5).1⟩
theorem vx_isRef {C n d : String} {v : Value} {A : Nat → Prop} {s : State} {args : Array Value} (h : va_Z C n d v A s s.heap) (hv : v.isRef = true) : (Cond.isRef (.static C n d)).before args s = true := by
  obtain ⟨cf, kf, fi, f, a, cell, h1, h2, h3, h4, h5, h6, h7, -⟩ := h
  have he : (Term.static C n d).eval args s none [] s = some v := by
    simp [Term.eval, State.fieldNamed?, h1, h2, h4, h5, h6, h7]
  simp only [Cond.before, Cond.holds, Cond.value, he]
  cases v <;> simp_all [Value.isRef]
theorem vx_isRefq {C n d : String} {A : Nat → Prop} {s : State} {args : Array Value} (h : va_Zq C n d A s s.heap) : (Cond.isRef (.static C n d)).before args s = true := by
  rcases h with h | ⟨t, h⟩
  · exact vx_isRef h rfl
  · exact vx_isRef h rfl
/-- the same frame, seen from here: as if the method were called anew in this heap -/
theorem vx_rebase {T : State} (X : Stand p l e R s m args below meth c T locs cells slots) {R' : Room} (hf : R'.frames ≤ R.frames) (hl : R'.locals ≤ R.locals) (hc : cells + R'.cells ≤ R.cells) (hs : slots + R'.slots ≤ R.slots) :
    Stand p l e R' ((T.setVm s.vm).setFrames (.invoking m args :: below)) m args below meth c T [] 0 0 := by
  have htop : (T.setVm s.vm).topJava?.isSome := X.here.top
  have hF : ((T.setVm s.vm).setFrames (.invoking m args :: below)).frames = .invoking m args :: below := State.frames_setFrames _ (State.cur_lt_of_top htop)
  obtain ⟨g₀, hg0⟩ := Option.isSome_iff_exists.mp htop
  obtain ⟨r, hr⟩ := State.topJava?_eq_some.mp hg0
  have hl9 : e.platform.stackLimits (T.setVm s.vm).me = e.platform.stackLimits s.me := X.limits
  have hb9 : (T.setVm s.vm).me.stackBytes = s.me.stackBytes := X.bytes
  refine ⟨X.admits, X.cas, X.clock, hF, ?_, X.hears, X.method, X.code, X.here, X.tail, X.warmed, ?_, ?_, ?_⟩
  · have h := X.room
    have hU : ((T.setVm s.vm).setFrames (.invoking m args :: below)).localsInUse = s.localsInUse := by
      rw [State.localsInUse_invoking hF (meth := meth) (c := c) X.method X.code, State.localsInUse_invoking X.frames X.method X.code]
    simp only [State.hasRoom, Bool.and_eq_true, decide_eq_true_eq] at h ⊢
    obtain ⟨⟨⟨⟨h1, h2, h3, h4, h5, h6⟩, h7⟩, h8⟩, h9⟩ := h
    rw [X.frames, List.length_cons] at h2 h3
    have q1 := X.heapSize
    have q2 := X.used
    simp only [hF, hU, List.length_cons, State.stackLimits_setFrames, State.stackBytes_setFrames, hl9, hb9]
    refine ⟨⟨⟨⟨by omega, by omega, by omega, by omega, by omega, h6⟩, ?_⟩, ?_⟩, X.book⟩
    · show T.heap.size + R'.cells ≤ e.platform.maxCells
      omega
    · show T.slotsUsed + R'.slots ≤ e.platform.maxSlots
      omega
  · rw [State.stackLimits_setFrames]; rfl
  · rw [State.stackBytes_setFrames]; rfl
  · refine ⟨?_, Nat.le_refl _, Nat.le_refl _, ?_, ?_, fun a c9 h9 => ⟨c9, h9, rfl, rfl, fun _ _ => rfl⟩⟩
    · obtain ⟨t, ht, -⟩ := State.frames_cons hr
      show T.setVm s.vm = { ((T.setVm s.vm).setFrames (.invoking m args :: below)).setFrames (T.setVm s.vm).frames with heap := T.heap, slotsUsed := T.slotsUsed }
      rw [State.setFrames_setFrames, State.setFrames_self ht]
      rfl
    · show T.slotsUsed = T.slotsUsed + ((T.heap.toList.drop T.heap.size).map (·.slots.size)).sum
      rw [List.drop_eq_nil_of_le (Nat.le_of_eq Array.length_toList)]
      rfl
    · show ((T.heap.toList.drop T.heap.size).map (·.slots.size)).sum ≤ 0
      rw [List.drop_eq_nil_of_le (Nat.le_of_eq Array.length_toList)]
      exact Nat.le_refl _
/-- 'throw new E()': new; dup; invokespecial; athrow -/
theorem vx_throw0 {cc : ByteArray} {pc : Nat} (hexec : p.tables.exec = Jvm.exec) (hb : c.code = cc) (hl : l.stackTraces = false) {own cls : String} {names : List String} {ik ic mc ms : Nat} {A : Nat → Prop}
    (hown : s.vm.findClass own = some m.cls) (hcls : Bundle.fit cls = true) (hnames : ∀ n ∈ names, Bundle.fit n = true)
    (hk : (Cond.classLink own ik cls).before args s = true) (hini : (Cond.initialized cls).before args s = true) (hat : ∀ w ∈ vx_at0 own ic cls names, w.before args s = true)
    (hgood : ∀ w ∈ Cond.classLink own ik cls :: Cond.initialized cls :: vx_at0 own ic cls names, vx_ot w = true)
    (hU : vx_Zq Bundle.tN "UNASSIGNED_STACK" Bundle.steD A s s.heap) (hN : vx_Zq Bundle.tN "SUPPRESSED_SENTINEL" Bundle.listD A s s.heap) (hS : va_S A s.heap H locs) (hsize : ls.size = c.maxLocals)
    (d0 : decode cc pc = .ok (.new ik, 3)) (d3 : decode cc (pc + 3) = .ok (.dup, 1)) (d4 : decode cc (pc + 4) = .ok (.invokespecial ic, 3)) (d7 : decode cc (pc + 7) = .ok (.athrow, 1))
    (hout : ∀ x ∈ c.exceptionTable.toList, covers x (pc + 7) = false)
    (hRframes : names.length + 3 < R.frames) (hRlocals : (rest.map fun v => v.category).sum + (13 * (names.length + 1) + 42) ≤ R.locals) (hRcells : cells + 1 ≤ R.cells) (hRslots : slots + 6 ≤ R.slots) (hlocks : meth.locks = false)
    (hx : ∀ t : State, s.vm.Alike t.vm → H.size ≤ t.heap.size → (∀ q : Nat, q < H.size → t.heap[q]? = H[q]?) → XC cls s t)
    (hf : ∀ z ∈ locs, free z.base) (hc : cells + 1 ≤ mc) (hs : slots + 6 ≤ ms) :
    W p l e R s m args below meth c H locs cells slots (vx_MQ below Qc XC args s mc ms free) (F0 m pc ls rest) := by
  intro T hT X
  have htr : e.platform.stackTraces = false := (show e.platform.stackTraces = l.stackTraces by rw [X.admits.platform]).trans hl
  have Y := vx_rebase X (R' := { frames := R.frames, locals := R.locals, cells := 1, slots := 6 }) (Nat.le_refl _) (Nat.le_refl _) hRcells hRslots
  obtain ⟨s', hA⟩ : ∃ z, z = (T.setVm s.vm).setFrames (.invoking m args :: below) := ⟨_, rfl⟩
  rw [← hA] at Y
  have hvm : s'.vm = s.vm := by rw [hA]; rfl
  have hhp : s'.heap = H := by rw [hA]; exact hT
  have hW0 : s.WarmedH s'.vm := by rw [hvm]; exact State.WarmedH.refl s
  have hat' : ∀ w ∈ vx_at0 own ic cls names, w.before args s' = true := fun w hw => vx_ot_at hW0 hvm.symm (hgood w (List.mem_cons_of_mem _ (List.mem_cons_of_mem _ hw))) (hat w hw)
  have hk' : (Cond.classLink own ik cls).before args s' = true := vx_ot_at hW0 hvm.symm (hgood _ List.mem_cons_self) hk
  have hini' : (Cond.initialized cls).before args s' = true := vx_ot_at hW0 hvm.symm (hgood _ (List.mem_cons_of_mem _ List.mem_cons_self)) hini
  have hU' : vx_Zq Bundle.tN "UNASSIGNED_STACK" Bundle.steD A s' s'.heap := by rw [hhp]; exact vx_Zq.moved hW0.alike (hU.kept hS.2.1)
  have hN' : vx_Zq Bundle.tN "SUPPRESSED_SENTINEL" Bundle.listD A s' s'.heap := by rw [hhp]; exact vx_Zq.moved hW0.alike (hN.kept hS.2.1)
  have h : ∀ w ∈ Bundle.ownAtoms0 own ic cls names, w.before args s' = true := vx_own hat' (vx_isRefq hU'.1) (vx_isRefq hN'.1) hU'.2.word hN'.2.word
  have hown' : s'.vm.findClass own = some m.cls := by rw [hvm]; exact hown
  have hins : (Cond.instantiable cls 6).before args s' = true := h _ (by simp [Bundle.ownAtoms0])
  obtain ⟨vm₁, cX, kX, hfX, hkX, -, -, X₁, st1⟩ := Y.newCold hexec (own := own) (C := cls) (index := ik) (n := 6) hown' hk' hins hini'
    (g := F0 m pc ls rest) rfl (by rw [hb]; exact d0) (Nat.le_refl _) (Nat.le_refl _)
  generalize hT1 : (T.setVm vm₁).pushCell { cls := cX, slots := kX.instanceTypes.map defaultValue, vm := .none } = T1 at X₁ st1
  have hcat : (Value.ref T.heap.size).category = 1 := rfl
  have hcellA : T1.heap[T.heap.size]? = some (freshCell cX kX) := by rw [← hT1]; exact State.heap_pushCell_size _ _
  have d3' : decode c.code (pc + 3) = .ok (.dup, 1) := by rw [hb]; exact d3
  obtain ⟨U, hsteps, hrun, hend, hW, hsame, ce, hce, hO⟩ := X₁.ctorThrow0 hexec htr (own := own) (cls := cls) (names := names) (ic := ic) hown' hcls hnames h (fun x hx => nomatch hx) hfX hkX hcellA (by rw [hhp, hT]; exact Nat.le_refl _)
    (g := { method := m, pc := pc + 4, locals := ls, stack := .ref T.heap.size :: .ref T.heap.size :: rest, locked := none }) rfl hsize rfl rfl (rest := rest) rfl
    (by rw [hb]; exact d4) (by rw [hb]; exact d7) hout hRframes (by simp only [List.map_cons, List.sum_cons, hcat]; omega) hlocks
  obtain ⟨f1, f2⟩ := vx_frame hsame
  rw [hhp] at f1 f2
  have hWs : s.WarmedH U.vm := State.WarmedH.trans hW0 hW
  have hcl : s.vm.findClass cls = some ce.cls := by
    have h9 := hO.cls
    rw [hvm] at h9
    exact h9
  have hall : s.sameButNew ({ U with vm := s.vm } : State) locs mc ms := by
    subst hA
    obtain ⟨e1, e2⟩ := hsame
    rw [State.setFrames_setFrames] at e1
    have h2 : (T.setVm s.vm).sameButNew ({ U with vm := s.vm } : State) [] (0 + 1) (0 + 6) := ⟨e1, e2⟩
    have h3 := X.same.trans h2
    rw [List.append_nil] at h3
    exact h3.mono hc hs
  refine ⟨U, ?_, .threw T.heap.size, hrun, hend, Or.inr ⟨T.heap.size, rfl, cls, ce, locs, hx U hWs.alike f1 (fun q hq => f2 q hq (fun z hz => nomatch hz)), hce, hO.vm, hcl, hWs, hall, hf⟩⟩
  refine st1 _ ?_
  show Steps p.tables e below (T1.setTop { method := m, pc := pc + 3, locals := ls, stack := .ref T.heap.size :: rest, locked := none }) _
  jvm_step X₁.here [X₁.here.top, hexec, d3', Value.category]
  exact hsteps
/-- 'throw new E("text")': new; dup; ldc; invokespecial; athrow -/
theorem vx_throwS {cc : ByteArray} {pc : Nat} (hexec : p.tables.exec = Jvm.exec) (hb : c.code = cc) (hl : l.stackTraces = false) {own cls text : String} {names : List String} {ik is ic mc ms sa : Nat} {A : Nat → Prop}
    (hown : s.vm.findClass own = some m.cls) (hcls : Bundle.fit cls = true) (hnames : ∀ n ∈ names, Bundle.fit n = true)
    (hk : (Cond.classLink own ik cls).before args s = true) (hini : (Cond.initialized cls).before args s = true) (hstr : vk_R own is text sa s) (hat : ∀ w ∈ vx_atS own ic cls names, w.before args s = true)
    (hgood : ∀ w ∈ Cond.classLink own ik cls :: Cond.initialized cls :: vx_atS own ic cls names, vx_ot w = true)
    (hU : vx_Zq Bundle.tN "UNASSIGNED_STACK" Bundle.steD A s s.heap) (hN : vx_Zq Bundle.tN "SUPPRESSED_SENTINEL" Bundle.listD A s s.heap) (hS : va_S A s.heap H locs) (hsize : ls.size = c.maxLocals)
    (d0 : decode cc pc = .ok (.new ik, 3)) (d3 : decode cc (pc + 3) = .ok (.dup, 1)) (d4 : decode cc (pc + 4) = .ok (.ldc is, 2)) (d6 : decode cc (pc + 6) = .ok (.invokespecial ic, 3)) (d9 : decode cc (pc + 9) = .ok (.athrow, 1))
    (hout : ∀ x ∈ c.exceptionTable.toList, covers x (pc + 9) = false)
    (hRframes : names.length + 3 < R.frames) (hRlocals : (rest.map fun v => v.category).sum + (13 * (names.length + 1) + 43) ≤ R.locals) (hRcells : cells + 1 ≤ R.cells) (hRslots : slots + 6 ≤ R.slots) (hlocks : meth.locks = false)
    (hx : ∀ t : State, s.vm.Alike t.vm → H.size ≤ t.heap.size → (∀ q : Nat, q < H.size → t.heap[q]? = H[q]?) → XC cls s t)
    (hf : ∀ z ∈ locs, free z.base) (hc : cells + 1 ≤ mc) (hs : slots + 6 ≤ ms) :
    W p l e R s m args below meth c H locs cells slots (vx_MQ below Qc XC args s mc ms free) (F0 m pc ls rest) := by
  intro T hT X
  have htr : e.platform.stackTraces = false := (show e.platform.stackTraces = l.stackTraces by rw [X.admits.platform]).trans hl
  have Y := vx_rebase X (R' := { frames := R.frames, locals := R.locals, cells := 1, slots := 6 }) (Nat.le_refl _) (Nat.le_refl _) hRcells hRslots
  obtain ⟨s', hA⟩ : ∃ z, z = (T.setVm s.vm).setFrames (.invoking m args :: below) := ⟨_, rfl⟩
  rw [← hA] at Y
  have hvm : s'.vm = s.vm := by rw [hA]; rfl
  have hhp : s'.heap = H := by rw [hA]; exact hT
  have hW0 : s.WarmedH s'.vm := by rw [hvm]; exact State.WarmedH.refl s
  have hat' : ∀ w ∈ vx_atS own ic cls names, w.before args s' = true := fun w hw => vx_ot_at hW0 hvm.symm (hgood w (List.mem_cons_of_mem _ (List.mem_cons_of_mem _ hw))) (hat w hw)
  have hk' : (Cond.classLink own ik cls).before args s' = true := vx_ot_at hW0 hvm.symm (hgood _ List.mem_cons_self) hk
  have hini' : (Cond.initialized cls).before args s' = true := vx_ot_at hW0 hvm.symm (hgood _ (List.mem_cons_of_mem _ List.mem_cons_self)) hini
  have hU' : vx_Zq Bundle.tN "UNASSIGNED_STACK" Bundle.steD A s' s'.heap := by rw [hhp]; exact vx_Zq.moved hW0.alike (hU.kept hS.2.1)
  have hN' : vx_Zq Bundle.tN "SUPPRESSED_SENTINEL" Bundle.listD A s' s'.heap := by rw [hhp]; exact vx_Zq.moved hW0.alike (hN.kept hS.2.1)
  have h : ∀ w ∈ Bundle.ownAtoms own ic cls names, w.before args s' = true := vx_own hat' (vx_isRefq hU'.1) (vx_isRefq hN'.1) hU'.2.word hN'.2.word
  have hown' : s'.vm.findClass own = some m.cls := by rw [hvm]; exact hown
  have hins : (Cond.instantiable cls 6).before args s' = true := h _ (by simp [Bundle.ownAtoms])
  obtain ⟨vm₁, cX, kX, hfX, hkX, -, -, X₁, st1⟩ := Y.newCold hexec (own := own) (C := cls) (index := ik) (n := 6) hown' hk' hins hini'
    (g := F0 m pc ls rest) rfl (by rw [hb]; exact d0) (Nat.le_refl _) (Nat.le_refl _)
  generalize hT1 : (T.setVm vm₁).pushCell { cls := cX, slots := kX.instanceTypes.map defaultValue, vm := .none } = T1 at X₁ st1
  have hcat : (Value.ref T.heap.size).category = 1 := rfl
  have hcellA : T1.heap[T.heap.size]? = some (freshCell cX kX) := by rw [← hT1]; exact State.heap_pushCell_size _ _
  have d3' : decode c.code (pc + 3) = .ok (.dup, 1) := by rw [hb]; exact d3
  have d4' : decode c.code (pc + 4) = .ok (.ldc is, 2) := by rw [hb]; exact d4
  have hstr' : vk_R own is text sa s' := vk_R.warm hW0 hstr
  obtain ⟨U, hsteps, hrun, hend, hW, hsame, ce, hce, hO⟩ := X₁.ctorThrowS hexec htr (own := own) (cls := cls) (names := names) (ic := ic) hown' hcls hnames h (fun x hx => nomatch hx) hfX hkX hcellA (by rw [hhp, hT]; exact Nat.le_refl _) (msg := .ref sa) rfl
    (g := { method := m, pc := pc + 6, locals := ls, stack := .ref sa :: .ref T.heap.size :: .ref T.heap.size :: rest, locked := none }) rfl hsize rfl rfl (rest := rest) rfl
    (by rw [hb]; exact d6) (by rw [hb]; exact d9) hout hRframes (by simp only [List.map_cons, List.sum_cons, hcat]; omega) hlocks
  obtain ⟨f1, f2⟩ := vx_frame hsame
  rw [hhp] at f1 f2
  have hWs : s.WarmedH U.vm := State.WarmedH.trans hW0 hW
  have hcl : s.vm.findClass cls = some ce.cls := by
    have h9 := hO.cls
    rw [hvm] at h9
    exact h9
  have hall : s.sameButNew ({ U with vm := s.vm } : State) locs mc ms := by
    subst hA
    obtain ⟨e1, e2⟩ := hsame
    rw [State.setFrames_setFrames] at e1
    have h2 : (T.setVm s.vm).sameButNew ({ U with vm := s.vm } : State) [] (0 + 1) (0 + 6) := ⟨e1, e2⟩
    have h3 := X.same.trans h2
    rw [List.append_nil] at h3
    exact h3.mono hc hs
  refine ⟨U, ?_, .threw T.heap.size, hrun, hend, Or.inr ⟨T.heap.size, rfl, cls, ce, locs, hx U hWs.alike f1 (fun q hq => f2 q hq (fun z hz => nomatch hz)), hce, hO.vm, hcl, hWs, hall, hf⟩⟩
  refine st1 _ ?_
  show Steps p.tables e below (T1.setTop { method := m, pc := pc + 3, locals := ls, stack := .ref T.heap.size :: rest, locked := none }) _
  jvm_step X₁.here [X₁.here.top, hexec, d3', Value.category]
  exact X₁.ldcString hexec (own := own) (text := text) (index := is) (a := sa) hown' hstr'.1 hstr'.2
    (g := { method := m, pc := pc + 4, locals := ls, stack := .ref T.heap.size :: .ref T.heap.size :: rest, locked := none }) rfl d4' _ hsteps
/-- 'throw new E("text")', the text by a wide index -/
theorem vx_throwSW {cc : ByteArray} {pc : Nat} (hexec : p.tables.exec = Jvm.exec) (hb : c.code = cc) (hl : l.stackTraces = false) {own cls text : String} {names : List String} {ik is ic mc ms sa : Nat} {A : Nat → Prop}
    (hown : s.vm.findClass own = some m.cls) (hcls : Bundle.fit cls = true) (hnames : ∀ n ∈ names, Bundle.fit n = true)
    (hk : (Cond.classLink own ik cls).before args s = true) (hini : (Cond.initialized cls).before args s = true) (hstr : vk_R own is text sa s) (hat : ∀ w ∈ vx_atS own ic cls names, w.before args s = true)
    (hgood : ∀ w ∈ Cond.classLink own ik cls :: Cond.initialized cls :: vx_atS own ic cls names, vx_ot w = true)
    (hU : vx_Zq Bundle.tN "UNASSIGNED_STACK" Bundle.steD A s s.heap) (hN : vx_Zq Bundle.tN "SUPPRESSED_SENTINEL" Bundle.listD A s s.heap) (hS : va_S A s.heap H locs) (hsize : ls.size = c.maxLocals)
    (d0 : decode cc pc = .ok (.new ik, 3)) (d3 : decode cc (pc + 3) = .ok (.dup, 1)) (d4 : decode cc (pc + 4) = .ok (.ldc_w is, 3)) (d7 : decode cc (pc + 7) = .ok (.invokespecial ic, 3)) (d10 : decode cc (pc + 10) = .ok (.athrow, 1))
    (hout : ∀ x ∈ c.exceptionTable.toList, covers x (pc + 10) = false)
    (hRframes : names.length + 3 < R.frames) (hRlocals : (rest.map fun v => v.category).sum + (13 * (names.length + 1) + 43) ≤ R.locals) (hRcells : cells + 1 ≤ R.cells) (hRslots : slots + 6 ≤ R.slots) (hlocks : meth.locks = false)
    (hx : ∀ t : State, s.vm.Alike t.vm → H.size ≤ t.heap.size → (∀ q : Nat, q < H.size → t.heap[q]? = H[q]?) → XC cls s t)
    (hf : ∀ z ∈ locs, free z.base) (hc : cells + 1 ≤ mc) (hs : slots + 6 ≤ ms) :
    W p l e R s m args below meth c H locs cells slots (vx_MQ below Qc XC args s mc ms free) (F0 m pc ls rest) := by
  intro T hT X
  have htr : e.platform.stackTraces = false := (show e.platform.stackTraces = l.stackTraces by rw [X.admits.platform]).trans hl
  have Y := vx_rebase X (R' := { frames := R.frames, locals := R.locals, cells := 1, slots := 6 }) (Nat.le_refl _) (Nat.le_refl _) hRcells hRslots
  obtain ⟨s', hA⟩ : ∃ z, z = (T.setVm s.vm).setFrames (.invoking m args :: below) := ⟨_, rfl⟩
  rw [← hA] at Y
  have hvm : s'.vm = s.vm := by rw [hA]; rfl
  have hhp : s'.heap = H := by rw [hA]; exact hT
  have hW0 : s.WarmedH s'.vm := by rw [hvm]; exact State.WarmedH.refl s
  have hat' : ∀ w ∈ vx_atS own ic cls names, w.before args s' = true := fun w hw => vx_ot_at hW0 hvm.symm (hgood w (List.mem_cons_of_mem _ (List.mem_cons_of_mem _ hw))) (hat w hw)
  have hk' : (Cond.classLink own ik cls).before args s' = true := vx_ot_at hW0 hvm.symm (hgood _ List.mem_cons_self) hk
  have hini' : (Cond.initialized cls).before args s' = true := vx_ot_at hW0 hvm.symm (hgood _ (List.mem_cons_of_mem _ List.mem_cons_self)) hini
  have hU' : vx_Zq Bundle.tN "UNASSIGNED_STACK" Bundle.steD A s' s'.heap := by rw [hhp]; exact vx_Zq.moved hW0.alike (hU.kept hS.2.1)
  have hN' : vx_Zq Bundle.tN "SUPPRESSED_SENTINEL" Bundle.listD A s' s'.heap := by rw [hhp]; exact vx_Zq.moved hW0.alike (hN.kept hS.2.1)
  have h : ∀ w ∈ Bundle.ownAtoms own ic cls names, w.before args s' = true := vx_own hat' (vx_isRefq hU'.1) (vx_isRefq hN'.1) hU'.2.word hN'.2.word
  have hown' : s'.vm.findClass own = some m.cls := by rw [hvm]; exact hown
  have hins : (Cond.instantiable cls 6).before args s' = true := h _ (by simp [Bundle.ownAtoms])
  obtain ⟨vm₁, cX, kX, hfX, hkX, -, -, X₁, st1⟩ := Y.newCold hexec (own := own) (C := cls) (index := ik) (n := 6) hown' hk' hins hini'
    (g := F0 m pc ls rest) rfl (by rw [hb]; exact d0) (Nat.le_refl _) (Nat.le_refl _)
  generalize hT1 : (T.setVm vm₁).pushCell { cls := cX, slots := kX.instanceTypes.map defaultValue, vm := .none } = T1 at X₁ st1
  have hcat : (Value.ref T.heap.size).category = 1 := rfl
  have hcellA : T1.heap[T.heap.size]? = some (freshCell cX kX) := by rw [← hT1]; exact State.heap_pushCell_size _ _
  have d3' : decode c.code (pc + 3) = .ok (.dup, 1) := by rw [hb]; exact d3
  have d4' : decode c.code (pc + 4) = .ok (.ldc_w is, 3) := by rw [hb]; exact d4
  have hstr' : vk_R own is text sa s' := vk_R.warm hW0 hstr
  obtain ⟨U, hsteps, hrun, hend, hW, hsame, ce, hce, hO⟩ := X₁.ctorThrowS hexec htr (own := own) (cls := cls) (names := names) (ic := ic) hown' hcls hnames h (fun x hx => nomatch hx) hfX hkX hcellA (by rw [hhp, hT]; exact Nat.le_refl _) (msg := .ref sa) rfl
    (g := { method := m, pc := pc + 7, locals := ls, stack := .ref sa :: .ref T.heap.size :: .ref T.heap.size :: rest, locked := none }) rfl hsize rfl rfl (rest := rest) rfl
    (by rw [hb]; exact d7) (by rw [hb]; exact d10) hout hRframes (by simp only [List.map_cons, List.sum_cons, hcat]; omega) hlocks
  obtain ⟨f1, f2⟩ := vx_frame hsame
  rw [hhp] at f1 f2
  have hWs : s.WarmedH U.vm := State.WarmedH.trans hW0 hW
  have hcl : s.vm.findClass cls = some ce.cls := by
    have h9 := hO.cls
    rw [hvm] at h9
    exact h9
  have hall : s.sameButNew ({ U with vm := s.vm } : State) locs mc ms := by
    subst hA
    obtain ⟨e1, e2⟩ := hsame
    rw [State.setFrames_setFrames] at e1
    have h2 : (T.setVm s.vm).sameButNew ({ U with vm := s.vm } : State) [] (0 + 1) (0 + 6) := ⟨e1, e2⟩
    have h3 := X.same.trans h2
    rw [List.append_nil] at h3
    exact h3.mono hc hs
  refine ⟨U, ?_, .threw T.heap.size, hrun, hend, Or.inr ⟨T.heap.size, rfl, cls, ce, locs, hx U hWs.alike f1 (fun q hq => f2 q hq (fun z hz => nomatch hz)), hce, hO.vm, hcl, hWs, hall, hf⟩⟩
  refine st1 _ ?_
  show Steps p.tables e below (T1.setTop { method := m, pc := pc + 3, locals := ls, stack := .ref T.heap.size :: rest, locked := none }) _
  jvm_step X₁.here [X₁.here.top, hexec, d3', Value.category]
  exact X₁.ldcStringW hexec (own := own) (text := text) (index := is) (a := sa) hown' hstr'.1 hstr'.2
    (g := { method := m, pc := pc + 4, locals := ls, stack := .ref T.heap.size :: .ref T.heap.size :: rest, locked := none }) rfl d4' _ hsteps
end Ends
section Bodies
variable {l : Launch}
theorem vx_ofW {y : MethodName} {ws ws' : List Cond} {rm : Room} {Pc : Array Value → State → Prop} {Qc : Array Value → State → Outcome → State → Prop} {XC : String → State → State → Prop} {mc ms : Nat} {free : Addr → Prop} {cc : ByteArray} {maxL : Nat} {ret : Option FieldType}
    (hy : plainName y.cls = true) (hw : ws = Cond.code y cc maxL ret :: ws')
    (body : ∀ p e s m args below meth c s₁, BodyLoose p l y (headSpec ws rm) cc maxL ret e s m args below meth c s₁ → c.maxLocals = maxL → (∀ x ∈ c.exceptionTable.toList, False) → Pc args s →
      W p l e (headSpec ws rm).room s m args below meth c s.heap [] 0 0 (vx_MQ below Qc XC args s mc ms free) (entryFrame m args maxL)) : vx_Met l y ws rm Pc Qc XC mc ms free := by
  refine MetFree.of_bodyS (code := cc) (maxLocals := maxL) (ret := ret) hy ?_ ?_
  · intro args s m h hn
    obtain ⟨meth, c, h1, h2, h3, h4, h5, h6, -, -⟩ := Cond.code_spec hn (atoms_spec (ws := ws) h _ (by rw [hw]; exact List.mem_cons_self))
    exact ⟨meth, c, h1, h2, h3, h4, h5, h6⟩
  · intro p e s m args below meth c s₁ B hml hP _
    have hh0 : s₁.heap = s.heap := by rw [B.state]; rfl
    have ht : ∀ x ∈ c.exceptionTable.toList, False := by
      obtain ⟨meth9, c9, h1, h2, -, -, -, -, h7, -⟩ := Cond.code_spec B.named (atoms_spec (ws := ws) B.pre _ (by rw [hw]; exact List.mem_cons_self))
      cases Option.some.inj (h1.symm.trans B.method)
      cases Option.some.inj (h2.symm.trans (Stand.of_body B).code)
      intro x hx
      rw [Array.isEmpty_iff.mp h7] at hx
      cases hx
    obtain ⟨t, a1, o, b1, b2, b3⟩ := body p e s m args below meth c s₁ B hml ht hP s₁ hh0 (Stand.of_body B)
    exact ⟨t, o, a1, b1, b2, b3⟩
/-- the table of a body with handlers -/
theorem vx_table {p : Program} {x y : MethodName} {S : Spec} {cc bytes : ByteArray} {maxL maxL' : Nat} {ret ret' : Option FieldType} {e : Env} {s s₁ : State} {m : MethodId} {args : Array Value} {below : List Frame} {meth : Method} {c : Code} {hh : List (Nat × Nat × Nat × Nat)}
    (B : BodyLoose p l y S cc maxL ret e s m args below meth c s₁) (h : (Cond.codeWith y bytes maxL' ret' hh).before args s = true) : c.exceptionTable.toList = tableOf hh := by
  obtain ⟨m9, meth9, c9, hn9, h1, h2, -, -, h6, -⟩ := Cond.codeWith_spec h
  cases Option.some.inj (hn9.symm.trans B.named)
  cases Option.some.inj (h1.symm.trans B.method)
  cases Option.some.inj (h2.symm.trans (Stand.of_body B).code)
  rw [← h6, table_eq]
end Bodies
end VXA
/-! ===== END ===== -/
/-! ===== BEGIN a static call of a method with an exception table ===== -/
section VXS
variable {p : Program} {l : Launch} {e : Env} {R : Room} {s : State} {m : MethodId} {args : Array Value} {below : List Frame} {meth : Method} {c : Code} {T : State} {H : Heap} {locs : List Loc} {cells slots : Nat}
abbrev vx_CSW (R : Room) (s : State) (args : Array Value) (own : String) (index : Nat) (y : MethodName) (bytes : ByteArray) (maxL : Nat) (ret : Option FieldType) (hh : List (Nat × Nat × Nat × Nat)) (ws : List Cond) (rm : Room) (mc ms n : Nat) : Prop :=
  (rm.cells = mc ∧ rm.slots = ms ∧ rm.frames + 1 ≤ R.frames ∧ 8 + (maxL + 11) + rm.locals ≤ R.locals ∧ (∀ w ∈ ws, ∀ (a' : Array Value) (U : State), s.WarmedH U.vm → w.before a' U = true) ∧ Cond.codeWith y bytes maxL ret hh ∈ ws) ∧
  (Cond.codeWith y bytes maxL ret hh).before args s = true ∧ (Cond.initialized y.cls).before args s = true ∧ (y.cls ≠ "java/lang/invoke/MethodHandle" ∧ y.cls ≠ "java/lang/invoke/VarHandle") ∧
  (∀ sig, parseMethodDescriptor y.desc = some sig → n = sig.parameters.length) ∧ (Cond.methodLink own index y).before args s = true ∧ (Cond.static y).before args s = true
theorem vx_cwSW {own : String} {index maxL mc ms : Nat} {y : MethodName} {bytes : ByteArray} {ret : Option FieldType} {hh : List (Nat × Nat × Nat × Nat)} {Ts ws ws' : List Cond} {rm : Room} (n : Nat) (ht : ∀ w ∈ Ts, w.before args s = true) (hT : GoodIn Ts (va_wsS own index y ws)) (hw : ws = Cond.codeWith y bytes maxL ret hh :: ws') (hrc : rm.cells = mc) (hrs : rm.slots = ms)
    (hd : y.cls ≠ "java/lang/invoke/MethodHandle" ∧ y.cls ≠ "java/lang/invoke/VarHandle" ∧ (parseMethodDescriptor y.desc).map (fun d => d.parameters.length) = some n) (hR : rm.frames + 1 ≤ R.frames ∧ 8 + (maxL + 11) + rm.locals ≤ R.locals) :
    vx_CSW R s args own index y bytes maxL ret hh ws rm mc ms n := by
  have ok : ∀ w ∈ va_wsS own index y ws, w.before args s = true := fun w h => ht w (hT w h).1
  have hG : GoodIn Ts ws := fun w h => hT w (by unfold va_wsS; exact List.mem_append_right _ h)
  have hc : Cond.codeWith y bytes maxL ret hh ∈ ws := by rw [hw]; exact List.mem_cons_self
  refine ⟨⟨hrc, hrs, hR.1, hR.2, pay_in ht hG, hc⟩, ht _ (hG _ hc).1, ok _ (by simp [va_wsS]), ⟨hd.1, hd.2.1⟩, fun sig h => ?_, ok _ (by simp [va_wsS]), ok _ (by simp [va_wsS])⟩
  have h2 := hd.2.2
  rw [h] at h2
  exact (Option.some.inj h2).symm
theorem vx_callSW (X : Stand p l e R s m args below meth c T locs cells slots) (hexec : p.tables.exec = Jvm.exec) {own : String} {index : Nat} {y : MethodName} {bytes : ByteArray} {maxL : Nat} {ret : Option FieldType} {hh : List (Nat × Nat × Nat × Nat)}
    (hown : s.vm.findClass own = some m.cls) (hlink : (Cond.methodLink own index y).before args s = true) (hstat : (Cond.static y).before args s = true) (hinit : (Cond.initialized y.cls).before args s = true)
    (hcode : (Cond.codeWith y bytes maxL ret hh).before args s = true) (hy : y.cls ≠ "java/lang/invoke/MethodHandle" ∧ y.cls ≠ "java/lang/invoke/VarHandle")
    {W9 : Nat} {Pre : Pt → Array Value → Prop} {Post : Pt → Array Value → Option Value → Pt → Prop} (hK : Back l R p e below s args y 3 W9 Pre Post)
    {g : JFrame} (hg : g.method = m) (hsize : g.locals.size = c.maxLocals) {argsL rest : List Value} (hlen : ∀ sig, parseMethodDescriptor y.desc = some sig → argsL.length = sig.parameters.length)
    (hstack : g.stack = argsL.reverse ++ rest) (hW : 2 * g.monitorRoom + (rest.map fun v => v.category).sum ≤ W9) (hdg : decode c.code g.pc = .ok (.invokestatic index, 3))
    (hpre : ∀ vm₁, s.WarmedH vm₁ → Pre ⟨T.setVm vm₁, locs, cells, slots⟩ argsL.toArray) :
    ∃ (v : Option Value) (vm₁ : Vm) (B : Pt), s.WarmedH vm₁ ∧ Stand p l e R s m args below meth c B.U B.locs B.cells B.slots ∧ Post ⟨T.setVm vm₁, locs, cells, slots⟩ argsL.toArray v B ∧
      ∀ target, Steps p.tables e below (B.U.setTop { g with pc := g.pc + 3, stack := v.toList ++ rest }) target → Steps p.tables e below (T.setTop g) target := by
  obtain ⟨mk, methM, cM, hnamed, hmethM, -, -, -, -, -, -, hsigM⟩ := Cond.codeWith_spec hcode
  have hstatic : methM.isStatic = true := Cond.static_spec hnamed hmethM hstat
  obtain ⟨kP, hkP, -⟩ := className_of_methodNamed hnamed
  have hinitP : kP.init = .initialized := Cond.initialized_spec (findClass_of_methodNamed hnamed) hkP hinit
  obtain ⟨vm₁, X₁, hstep₁⟩ := X.invokestatic hexec hown hlink hnamed hmethM hstatic hkP hinitP hy (g := g) hg (argsL := argsL) (rest := rest) (hlen _ hsigM) hstack hdg
  obtain ⟨v, B, X', hpost, hsteps⟩ := hK m meth c ⟨T.setVm vm₁, locs, cells, slots⟩ { g with stack := rest } (.invokestatic index) mk argsL.toArray X₁ hg hsize hdg hW (X₁.named hnamed) (hpre vm₁ X₁.warmed)
  exact ⟨v, vm₁, B, X₁.warmed, X', hpost, fun target h => hstep₁ _ fun acts => by rw [doInvoke_state]; exact hsteps.trans h⟩
theorem vx_runSW {y : MethodName} {bytes cc : ByteArray} {maxL nL mc ms n index : Nat} {ret : Option FieldType} {hh : List (Nat × Nat × Nat × Nat)} {ws : List Cond} {rm : Room} {Pc : Array Value → State → Prop} {Qc : Array Value → State → Outcome → State → Prop} {free : Addr → Prop} {Ts : List Cond} {own : String} {As rest : List Value} {g : JFrame}
    (S : CallFix p m c cc nL s args Ts own) (hM : Met l y ws rm Pc Qc mc ms free) (cw : vx_CSW R s args own index y bytes maxL ret hh ws rm mc ms n) (hp : PreS s H Pc As)
    (hg : g.method = m) (hn : As.length = n) (hsize : g.locals.size = nL) (hstack : g.stack = As.reverse ++ rest) (hW : 2 * g.monitorRoom + (rest.map fun v => v.category).sum ≤ 8) (hdg : decode cc g.pc = .ok (.invokestatic index, 3)) (hf : cells + mc ≤ R.cells ∧ slots + ms ≤ R.slots) :
    va_Run p l e R s m args below meth c H locs cells slots mc ms g rest (Qc As.toArray) (free) := by
  obtain ⟨⟨hrc, hrs, hfr, hlo, hws, hcw⟩, hcode, hini, hy, hlen, hl, hstt⟩ := cw
  have hK : Back l R p e below s args y 3 8 (PreOf R mc ms Pc) (PostOf Qc mc ms free) := va_backW (hh := hh) (bytes := bytes) (maxL := maxL) (ret := ret) hM hp.1 hrc hrs hfr hlo hws hcw (fun a' U hW => word_at hW (Or.inl (by first | rfl | simp [Cond.onTables, Cond.keeps, Cond.steady])) hini)
  obtain ⟨hx, hb, hml, ho, -⟩ := S
  intro T hT X
  obtain ⟨v, vm₁, ⟨U', l2, c2, s2⟩, hW₁, X', ⟨g', mk, t, L, e1, e2, hq, h1, hL, h2, h3⟩, st⟩ := vx_callSW X hx (hh := hh) (bytes := bytes) (maxL := maxL) (ret := ret) ho hl hstt hini hcode hy hK hg (hsize.trans hml.symm) (argsL := As) (rest := rest) (fun sig h => hn.trans (hlen sig h)) hstack hW (by rw [hb]; exact hdg)
    (fun vm₁ hW₁ => ⟨hf.1, hf.2, hp.2 (T.setVm vm₁) hT hW₁⟩)
  dsimp only [Pt.U, Pt.locs, Pt.cells, Pt.slots] at X' e1 e2 h1 h2 h3 st
  subst h1; subst h2; subst h3
  exact ⟨v, (T.setVm vm₁).calling g' mk As.toArray, t, U', L, hT, X', hL, e1, e2, hq, st⟩
/-- a thing of a world lies in the heap -/
theorem vx_lt {D : va_G} {cl : List vw_C} {ws : va_W} {H1 : Heap} (h : va_P D cl ws H1) {k : Nat} {q : Nat × va_E} (hk : ws[k]? = some q) : q.1 < H1.size := (h k q hk).lt
end VXS
/-! ===== END ===== -/
/-! ===== BEGIN methods with a table of their own: called by a name, returning or throwing ===== -/
section VXH
/-! vx_backW, vx_callVX, vx_callSX, vx_callVW, vx_runVW, vx_runVX, vx_runSX, vx_ofWH follow the same proofs as their sisters above (Free/Laws.lean, Shelf42/LK1.lean); vx_outP calls Shelf42/NT130.lean (outThrough). -/
section
variable {l : Launch} {R : Room} {p : Program} {e : Env} {below : List Frame} {s : State} {sargs : Array Value} {y : MethodName} {len W9 : Nat}
theorem vx_backW {ws : List Cond} {rm : Room} {Pc : Array Value → State → Prop} {Qc : Array Value → State → Outcome → State → Prop} {XC : String → State → State → Prop} {mc ms : Nat} {free : Addr → Prop} {bytes : ByteArray} {maxL : Nat} {ret : Option FieldType} {hh : List (Nat × Nat × Nat × Nat)}
    (hM : vx_Met l y ws rm Pc Qc XC mc ms free) (hblind : FrameBlind Pc) (hrc : rm.cells = mc) (hrs : rm.slots = ms)
    (hframes : rm.frames + 1 ≤ R.frames) (hlocals : W9 + (maxL + 11) + rm.locals ≤ R.locals)
    (hws : ∀ w ∈ ws, ∀ a' U, s.WarmedH U.vm → w.before a' U = true) (hcode : Cond.codeWith y bytes maxL ret hh ∈ ws) (hinit : ∀ a' U, s.WarmedH U.vm → (Cond.initialized y.cls).before a' U = true) :
    vx_Back l R p e below s sargs y len W9 (PreOf R mc ms Pc) (PostOf Qc mc ms free) (vx_Post XC mc ms free) := by
  intro m meth c A g ig mk a X hg hsize hdg hW hn hp
  have h1 : (headSpec ws rm).pre.before a A.U = true := atoms_intro fun w hw => hws w hw _ _ X.warmed
  have h2 : (Cond.codeWith y bytes maxL ret hh).before a A.U = true := hws _ hcode _ _ X.warmed
  have h3 : (Cond.initialized y.cls).before a A.U = true := hinit _ _ X.warmed
  have h4 : A.cells + (headSpec ws rm).room.cells ≤ R.cells := by rw [show (headSpec ws rm).room.cells = mc from hrc]; exact hp.1
  have h5 : A.slots + (headSpec ws rm).room.slots ≤ R.slots := by rw [show (headSpec ws rm).room.slots = ms from hrs]; exact hp.2.1
  have hPc : Pc a (A.U.calling g mk a) := hblind _ _ _ _ hp.2.2
  obtain ⟨U, Ls, c0, s0⟩ := A
  dsimp only [Pt.U, Pt.locs, Pt.cells, Pt.slots] at h1 h2 h3 h4 h5 X hn hPc ⊢
  obtain ⟨m9, methY, cY, hn9, hmY, hcY, -, hlY, -⟩ := Cond.codeWith_spec h2
  cases Option.some.inj (hn9.symm.trans hn)
  obtain ⟨kY, hkY, -⟩ := className_of_methodNamed hn
  have hinitY : kY.init = .initialized := Cond.initialized_spec (findClass_of_methodNamed hn) hkY h3
  have h : At U g.method c below := by rw [hg]; exact X.here
  have hlocals9 : W9 + (maxL + 11) + (headSpec ws rm).room.locals ≤ R.locals := hlocals
  have happ : (headSpec ws rm).appliesLoose y e.platform (U.calling g mk a) = true :=
    Spec.appliesLoose_calling (g := g) h hdg hn hkY hinitY
      (X.room_calling (g := g) (R' := (headSpec ws rm).room) hsize hmY hcY hframes (by rw [hlY]; omega) h4 h5) h1
  obtain ⟨mid, hmid⟩ := h.above
  have hfr : (U.setTop g).frames = (.java g :: mid) ++ below := by rw [State.frames_setTop' g h.top, hmid]; rfl
  obtain ⟨o, s₂, hsteps, -, hend, hq⟩ := Steps.callFree hM p X.admits X.cas X.clock (acts := []) hfr happ hPc trivial
  have hq' : vx_Q Qc XC mc ms free a (U.calling g mk a) o s₂ := hq
  rw [State.frames_setTop' g h.top] at hend
  obtain ⟨g₀, hg0⟩ := Option.isSome_iff_exists.mp h.top
  obtain ⟨r, hr⟩ := State.topJava?_eq_some.mp hg0
  have hr' : (({ U with heap := s₂.heap, slotsUsed := s₂.slotsUsed } : State).setVm s₂.vm).frames = .java g₀ :: r := hr
  rcases hq' with ⟨hqc, L, hfe, hL⟩ | ⟨q, rfl, E, ce, L, hx, hce, hcv, hcl, hW₂, hsm, hL⟩
  · obtain ⟨⟨v, rfl⟩, hW₂, e2, q2, q3, q4, q5, q6⟩ := id hfe
    have e3 : s₂ = ({ (U.calling g mk a).setFrames s₂.frames with heap := s₂.heap, slotsUsed := s₂.slotsUsed } : State).setVm s₂.vm := by
      have : s₂ = ({ s₂ with vm := (U.calling g mk a).vm } : State).setVm s₂.vm := rfl
      rw [e2] at this
      exact this
    obtain ⟨c₂, i₂, len₂, hc₂, hd₂, hf₂⟩ := hend
    have hW' : U.WarmedH s₂.vm := hW₂
    have hcc : c₂ = c := by
      have h1 : s₂.code? g.method = U.code? g.method := by
        rw [State.code?_eq, State.code?_eq, hW'.alike.method?]
      exact Option.some.inj (hc₂.symm.trans (h1.trans h.code))
    subst hcc
    have hlen : len₂ = len := by rw [hdg] at hd₂; cases hd₂; rfl
    subst hlen
    have hs₂ : s₂ = (({ U with heap := s₂.heap, slotsUsed := s₂.slotsUsed } : State).setVm s₂.vm).setTop { g with pc := g.pc + len₂, stack := v.toList ++ g.stack } := by
      refine e3.trans ?_
      rw [hf₂, State.calling_eq h.top, State.setFrames_setFrames, State.setTop_of_frames _ hr', hr]
      rfl
    have hsame : U.sameButNew ({ U with heap := s₂.heap, slotsUsed := s₂.slotsUsed } : State) L mc ms := by
      refine ⟨?_, q2, q3, q4, q5, q6⟩
      obtain ⟨t, ht, -⟩ := State.frames_cons hr
      show ({ U with heap := s₂.heap, slotsUsed := s₂.slotsUsed } : State) = { U.setFrames U.frames with heap := s₂.heap, slotsUsed := s₂.slotsUsed }
      rw [State.setFrames_self ht]
    subst hg
    refine Or.inl ⟨v, ⟨(({ U with heap := s₂.heap, slotsUsed := s₂.slotsUsed } : State).setVm s₂.vm), Ls ++ L, c0 + mc, s0 + ms⟩,
      ⟨X.admits, X.cas, X.clock, X.frames, X.room, X.hears, X.method, X.code, (X.here.setHeapUsed s₂.heap s₂.slotsUsed).setVm hW'.alike, X.tail, State.WarmedH.trans X.warmed hW', X.limits, X.bytes, X.same.trans (hsame.setVm s.vm)⟩,
      ⟨g, mk, s₂, L, rfl, rfl, hqc, rfl, hL, rfl, rfl⟩, ?_⟩
    show Steps p.tables e below _ ((({ U with heap := s₂.heap, slotsUsed := s₂.slotsUsed } : State).setVm s₂.vm).setTop { g with pc := g.pc + len₂, stack := v.toList ++ g.stack })
    rw [← hs₂]
    exact hsteps
  · obtain ⟨e2, q2, q3, q4, q5, q6⟩ := id hsm
    have e3 : s₂ = ({ (U.calling g mk a).setFrames s₂.frames with heap := s₂.heap, slotsUsed := s₂.slotsUsed } : State).setVm s₂.vm := by
      have : s₂ = ({ s₂ with vm := (U.calling g mk a).vm } : State).setVm s₂.vm := rfl
      rw [e2] at this
      exact this
    have hf₂ : s₂.frames = .throwing q :: .java g :: U.frames.tail := hend
    have hW' : U.WarmedH s₂.vm := hW₂
    have hs₂ : s₂ = ((({ U with heap := s₂.heap, slotsUsed := s₂.slotsUsed } : State).setVm s₂.vm).setTop g).pushFrame (.throwing q) := by
      refine e3.trans ?_
      rw [hf₂, State.calling_eq h.top, State.setFrames_setFrames, State.pushFrame, State.frames_setTop _ hr', State.setTop_of_frames _ hr', State.setFrames_setFrames, hr]
      rfl
    have hsame : U.sameButNew ({ U with heap := s₂.heap, slotsUsed := s₂.slotsUsed } : State) L mc ms := by
      refine ⟨?_, q2, q3, q4, q5, q6⟩
      obtain ⟨t, ht, -⟩ := State.frames_cons hr
      show ({ U with heap := s₂.heap, slotsUsed := s₂.slotsUsed } : State) = { U.setFrames U.frames with heap := s₂.heap, slotsUsed := s₂.slotsUsed }
      rw [State.setFrames_self ht]
    subst hg
    refine Or.inr ⟨q, ⟨(({ U with heap := s₂.heap, slotsUsed := s₂.slotsUsed } : State).setVm s₂.vm), Ls ++ L, c0 + mc, s0 + ms⟩,
      ⟨X.admits, X.cas, X.clock, X.frames, X.room, X.hears, X.method, X.code, (X.here.setHeapUsed s₂.heap s₂.slotsUsed).setVm hW'.alike, X.tail, State.WarmedH.trans X.warmed hW', X.limits, X.bytes, X.same.trans (hsame.setVm s.vm)⟩,
      ⟨g, mk, s₂, L, E, ce, rfl, rfl, hx, hce, hcv, hcl, rfl, hL, rfl, rfl⟩, ?_⟩
    show Steps p.tables e below _ (((({ U with heap := s₂.heap, slotsUsed := s₂.slotsUsed } : State).setVm s₂.vm).setTop g).pushFrame (.throwing q))
    rw [← hs₂]
    exact hsteps
end
variable {p : Program} {l : Launch} {e : Env} {R : Room} {s : State} {m : MethodId} {args : Array Value} {below : List Frame} {meth : Method} {c : Code} {T : State} {H : Heap} {locs : List Loc} {cells slots : Nat}
theorem vx_callVX (X : Stand p l e R s m args below meth c T locs cells slots) (hexec : p.tables.exec = Jvm.exec) {own C : String} {index : Nat} {y : MethodName} {bytes : ByteArray} {maxL : Nat} {ret : Option FieldType} {hh : List (Nat × Nat × Nat × Nat)}
    (hown : s.vm.findClass own = some m.cls) (hlink : (Cond.methodLink own index y).before args s = true) (hinst : (Cond.instanceMethod y).before args s = true) (hsel : (Cond.selects C y y).before args s = true)
    (hcode : (Cond.codeWith y bytes maxL ret hh).before args s = true) (hy : y.cls ≠ "java/lang/invoke/MethodHandle" ∧ y.cls ≠ "java/lang/invoke/VarHandle")
    {W9 : Nat} {Pre : Pt → Array Value → Prop} {Post : Pt → Array Value → Option Value → Pt → Prop} {PostX : Pt → Array Value → Addr → Pt → Prop} (hK : vx_Back l R p e below s args y 3 W9 Pre Post PostX)
    {b : Addr} {cellB : Cell} (hcell : T.heap[b]? = some cellB) (hobj : cellB.vm.isStatics = false) (hcls : s.vm.findClass C = some cellB.cls)
    {g : JFrame} (hg : g.method = m) (hsize : g.locals.size = c.maxLocals) {argsL rest : List Value} (hlen : ∀ sig, parseMethodDescriptor y.desc = some sig → argsL.length = sig.parameters.length)
    (hstack : g.stack = argsL.reverse ++ .ref b :: rest) (hW : 2 * g.monitorRoom + (rest.map fun v => v.category).sum ≤ W9) (hdg : decode c.code g.pc = .ok (.invokevirtual index, 3))
    (hpre : ∀ vm₁, s.WarmedH vm₁ → Pre ⟨T.setVm vm₁, locs, cells, slots⟩ (Value.ref b :: argsL).toArray) :
    (∃ (v : Option Value) (vm₁ : Vm) (B : Pt), s.WarmedH vm₁ ∧ Stand p l e R s m args below meth c B.U B.locs B.cells B.slots ∧ Post ⟨T.setVm vm₁, locs, cells, slots⟩ (Value.ref b :: argsL).toArray v B ∧
      ∀ target, Steps p.tables e below (B.U.setTop { g with pc := g.pc + 3, stack := v.toList ++ rest }) target → Steps p.tables e below (T.setTop g) target) ∨
    (∃ (q : Addr) (vm₁ : Vm) (B : Pt), s.WarmedH vm₁ ∧ Stand p l e R s m args below meth c B.U B.locs B.cells B.slots ∧ PostX ⟨T.setVm vm₁, locs, cells, slots⟩ (Value.ref b :: argsL).toArray q B ∧
      Steps p.tables e below (T.setTop g) ((B.U.setTop { g with stack := rest }).pushFrame (.throwing q))) := by
  obtain ⟨mk, methM, hnamed, hmethM, hstM, habM⟩ := Cond.instanceMethod_spec hinst
  obtain ⟨m8, methM', cM, hn8, hmethM', -, -, -, -, -, -, hsigM⟩ := Cond.codeWith_spec hcode
  cases Option.some.inj (hn8.symm.trans hnamed)
  cases hmethM.symm.trans hmethM'
  obtain ⟨c2, r2, m2, q1, q2, q3, q4, kP, hkP, hkPi⟩ := Cond.selects_spec hsel
  cases hcls.symm.trans q1
  cases (State.methodFound?_of_named hnamed hy).symm.trans q2
  cases hnamed.symm.trans q3
  have hselP : selectMethod e.platform s.vm cellB.cls mk = .method mk := by rw [Launch.admits_selectMethod X.admits]; exact q4
  obtain ⟨vm₁, X₁, hstep₁⟩ := X.invokevirtual hexec hown hlink hnamed hmethM hstM hkP hkPi hy (a := b) (cell := cellB) hcell
    (fun z h => by rw [h] at hobj; cases hobj) hselP hmethM habM hkP hkPi (g := g) hg (argsL := argsL) (rest := rest) (hlen _ hsigM) hstack hdg
  rcases hK m meth c ⟨T.setVm vm₁, locs, cells, slots⟩ { g with stack := rest } (.invokevirtual index) mk (Value.ref b :: argsL).toArray X₁ hg hsize hdg hW (X₁.named hnamed) (hpre vm₁ X₁.warmed) with ⟨v, B, X', hpost, hsteps⟩ | ⟨q, B, X', hpost, hsteps⟩
  · exact Or.inl ⟨v, vm₁, B, X₁.warmed, X', hpost, fun target h => hstep₁ _ fun acts => by rw [doInvoke_state]; exact hsteps.trans h⟩
  · exact Or.inr ⟨q, vm₁, B, X₁.warmed, X', hpost, hstep₁ _ fun acts => by rw [doInvoke_state]; exact hsteps⟩
theorem vx_callSX (X : Stand p l e R s m args below meth c T locs cells slots) (hexec : p.tables.exec = Jvm.exec) {own : String} {index : Nat} {y : MethodName} {bytes : ByteArray} {maxL : Nat} {ret : Option FieldType} {hh : List (Nat × Nat × Nat × Nat)}
    (hown : s.vm.findClass own = some m.cls) (hlink : (Cond.methodLink own index y).before args s = true) (hstat : (Cond.static y).before args s = true) (hinit : (Cond.initialized y.cls).before args s = true)
    (hcode : (Cond.codeWith y bytes maxL ret hh).before args s = true) (hy : y.cls ≠ "java/lang/invoke/MethodHandle" ∧ y.cls ≠ "java/lang/invoke/VarHandle")
    {W9 : Nat} {Pre : Pt → Array Value → Prop} {Post : Pt → Array Value → Option Value → Pt → Prop} {PostX : Pt → Array Value → Addr → Pt → Prop} (hK : vx_Back l R p e below s args y 3 W9 Pre Post PostX)
    {g : JFrame} (hg : g.method = m) (hsize : g.locals.size = c.maxLocals) {argsL rest : List Value} (hlen : ∀ sig, parseMethodDescriptor y.desc = some sig → argsL.length = sig.parameters.length)
    (hstack : g.stack = argsL.reverse ++ rest) (hW : 2 * g.monitorRoom + (rest.map fun v => v.category).sum ≤ W9) (hdg : decode c.code g.pc = .ok (.invokestatic index, 3))
    (hpre : ∀ vm₁, s.WarmedH vm₁ → Pre ⟨T.setVm vm₁, locs, cells, slots⟩ argsL.toArray) :
    (∃ (v : Option Value) (vm₁ : Vm) (B : Pt), s.WarmedH vm₁ ∧ Stand p l e R s m args below meth c B.U B.locs B.cells B.slots ∧ Post ⟨T.setVm vm₁, locs, cells, slots⟩ argsL.toArray v B ∧
      ∀ target, Steps p.tables e below (B.U.setTop { g with pc := g.pc + 3, stack := v.toList ++ rest }) target → Steps p.tables e below (T.setTop g) target) ∨
    (∃ (q : Addr) (vm₁ : Vm) (B : Pt), s.WarmedH vm₁ ∧ Stand p l e R s m args below meth c B.U B.locs B.cells B.slots ∧ PostX ⟨T.setVm vm₁, locs, cells, slots⟩ argsL.toArray q B ∧
      Steps p.tables e below (T.setTop g) ((B.U.setTop { g with stack := rest }).pushFrame (.throwing q))) := by
  obtain ⟨mk, methM, cM, hnamed, hmethM, -, -, -, -, -, -, hsigM⟩ := Cond.codeWith_spec hcode
  have hstatic : methM.isStatic = true := Cond.static_spec hnamed hmethM hstat
  obtain ⟨kP, hkP, -⟩ := className_of_methodNamed hnamed
  have hinitP : kP.init = .initialized := Cond.initialized_spec (findClass_of_methodNamed hnamed) hkP hinit
  obtain ⟨vm₁, X₁, hstep₁⟩ := X.invokestatic hexec hown hlink hnamed hmethM hstatic hkP hinitP hy (g := g) hg (argsL := argsL) (rest := rest) (hlen _ hsigM) hstack hdg
  rcases hK m meth c ⟨T.setVm vm₁, locs, cells, slots⟩ { g with stack := rest } (.invokestatic index) mk argsL.toArray X₁ hg hsize hdg hW (X₁.named hnamed) (hpre vm₁ X₁.warmed) with ⟨v, B, X', hpost, hsteps⟩ | ⟨q, B, X', hpost, hsteps⟩
  · exact Or.inl ⟨v, vm₁, B, X₁.warmed, X', hpost, fun target h => hstep₁ _ fun acts => by rw [doInvoke_state]; exact hsteps.trans h⟩
  · exact Or.inr ⟨q, vm₁, B, X₁.warmed, X', hpost, hstep₁ _ fun acts => by rw [doInvoke_state]; exact hsteps⟩
theorem vx_callVW (X : Stand p l e R s m args below meth c T locs cells slots) (hexec : p.tables.exec = Jvm.exec) {own C : String} {index : Nat} {y : MethodName} {bytes : ByteArray} {maxL : Nat} {ret : Option FieldType} {hh : List (Nat × Nat × Nat × Nat)}
    (hown : s.vm.findClass own = some m.cls) (hlink : (Cond.methodLink own index y).before args s = true) (hinst : (Cond.instanceMethod y).before args s = true) (hsel : (Cond.selects C y y).before args s = true)
    (hcode : (Cond.codeWith y bytes maxL ret hh).before args s = true) (hy : y.cls ≠ "java/lang/invoke/MethodHandle" ∧ y.cls ≠ "java/lang/invoke/VarHandle")
    {W9 : Nat} {Pre : Pt → Array Value → Prop} {Post : Pt → Array Value → Option Value → Pt → Prop} (hK : Back l R p e below s args y 3 W9 Pre Post)
    {b : Addr} {cellB : Cell} (hcell : T.heap[b]? = some cellB) (hobj : cellB.vm.isStatics = false) (hcls : s.vm.findClass C = some cellB.cls)
    {g : JFrame} (hg : g.method = m) (hsize : g.locals.size = c.maxLocals) {argsL rest : List Value} (hlen : ∀ sig, parseMethodDescriptor y.desc = some sig → argsL.length = sig.parameters.length)
    (hstack : g.stack = argsL.reverse ++ .ref b :: rest) (hW : 2 * g.monitorRoom + (rest.map fun v => v.category).sum ≤ W9) (hdg : decode c.code g.pc = .ok (.invokevirtual index, 3))
    (hpre : ∀ vm₁, s.WarmedH vm₁ → Pre ⟨T.setVm vm₁, locs, cells, slots⟩ (Value.ref b :: argsL).toArray) :
    ∃ (v : Option Value) (vm₁ : Vm) (B : Pt), s.WarmedH vm₁ ∧ Stand p l e R s m args below meth c B.U B.locs B.cells B.slots ∧ Post ⟨T.setVm vm₁, locs, cells, slots⟩ (Value.ref b :: argsL).toArray v B ∧
      ∀ target, Steps p.tables e below (B.U.setTop { g with pc := g.pc + 3, stack := v.toList ++ rest }) target → Steps p.tables e below (T.setTop g) target := by
  obtain ⟨mk, methM, hnamed, hmethM, hstM, habM⟩ := Cond.instanceMethod_spec hinst
  obtain ⟨m8, methM', cM, hn8, hmethM', -, -, -, -, -, -, hsigM⟩ := Cond.codeWith_spec hcode
  cases Option.some.inj (hn8.symm.trans hnamed)
  cases hmethM.symm.trans hmethM'
  obtain ⟨c2, r2, m2, q1, q2, q3, q4, kP, hkP, hkPi⟩ := Cond.selects_spec hsel
  cases hcls.symm.trans q1
  cases (State.methodFound?_of_named hnamed hy).symm.trans q2
  cases hnamed.symm.trans q3
  have hselP : selectMethod e.platform s.vm cellB.cls mk = .method mk := by rw [Launch.admits_selectMethod X.admits]; exact q4
  obtain ⟨vm₁, X₁, hstep₁⟩ := X.invokevirtual hexec hown hlink hnamed hmethM hstM hkP hkPi hy (a := b) (cell := cellB) hcell
    (fun z h => by rw [h] at hobj; cases hobj) hselP hmethM habM hkP hkPi (g := g) hg (argsL := argsL) (rest := rest) (hlen _ hsigM) hstack hdg
  obtain ⟨v, B, X', hpost, hsteps⟩ := hK m meth c ⟨T.setVm vm₁, locs, cells, slots⟩ { g with stack := rest } (.invokevirtual index) mk (Value.ref b :: argsL).toArray X₁ hg hsize hdg hW (X₁.named hnamed) (hpre vm₁ X₁.warmed)
  exact ⟨v, vm₁, B, X₁.warmed, X', hpost, fun target h => hstep₁ _ fun acts => by rw [doInvoke_state]; exact hsteps.trans h⟩
abbrev vx_CVW (R : Room) (s : State) (args : Array Value) (own C : String) (index : Nat) (y : MethodName) (bytes : ByteArray) (maxL : Nat) (ret : Option FieldType) (hh : List (Nat × Nat × Nat × Nat)) (ws : List Cond) (rm : Room) (mc ms n : Nat) : Prop :=
  (rm.cells = mc ∧ rm.slots = ms ∧ rm.frames + 1 ≤ R.frames ∧ 8 + (maxL + 11) + rm.locals ≤ R.locals ∧ (∀ w ∈ ws, ∀ (a' : Array Value) (U : State), s.WarmedH U.vm → w.before a' U = true) ∧ Cond.codeWith y bytes maxL ret hh ∈ ws) ∧
  (Cond.codeWith y bytes maxL ret hh).before args s = true ∧ (Cond.initialized y.cls).before args s = true ∧ (y.cls ≠ "java/lang/invoke/MethodHandle" ∧ y.cls ≠ "java/lang/invoke/VarHandle") ∧
  (∀ sig, parseMethodDescriptor y.desc = some sig → n = sig.parameters.length) ∧ (Cond.methodLink own index y).before args s = true ∧ (Cond.instanceMethod y).before args s = true ∧ (Cond.selects C y y).before args s = true
theorem vx_cwVW {own C : String} {index maxL mc ms : Nat} {y : MethodName} {bytes : ByteArray} {ret : Option FieldType} {hh : List (Nat × Nat × Nat × Nat)} {Ts ws ws' : List Cond} {rm : Room} (n : Nat) (ht : ∀ w ∈ Ts, w.before args s = true) (hT : GoodIn Ts (wsV own index C y ws)) (hw : ws = Cond.codeWith y bytes maxL ret hh :: ws') (hrc : rm.cells = mc) (hrs : rm.slots = ms)
    (hd : y.cls = C ∧ y.cls ≠ "java/lang/invoke/MethodHandle" ∧ y.cls ≠ "java/lang/invoke/VarHandle" ∧ (parseMethodDescriptor y.desc).map (fun d => d.parameters.length) = some n) (hR : rm.frames + 1 ≤ R.frames ∧ 8 + (maxL + 11) + rm.locals ≤ R.locals) :
    vx_CVW R s args own C index y bytes maxL ret hh ws rm mc ms n := by
  obtain ⟨hC, hd⟩ := hd
  subst hC
  have ok : ∀ w ∈ wsV own index y.cls y ws, w.before args s = true := fun w h => ht w (hT w h).1
  have hG : GoodIn Ts ws := fun w h => hT w (by unfold wsV; exact List.mem_append_right _ h)
  have hc : Cond.codeWith y bytes maxL ret hh ∈ ws := by rw [hw]; exact List.mem_cons_self
  refine ⟨⟨hrc, hrs, hR.1, hR.2, pay_in ht hG, hc⟩, ht _ (hG _ hc).1, ok _ (by simp [wsV]), ⟨hd.1, hd.2.1⟩, fun sig h => ?_, ok _ (by simp [wsV]), ok _ (by simp [wsV]), ok _ (by simp [wsV])⟩
  have h2 := hd.2.2
  rw [h] at h2
  exact (Option.some.inj h2).symm
theorem vx_runVW {y : MethodName} {bytes cc : ByteArray} {maxL nL mc ms n index : Nat} {ret : Option FieldType} {hh : List (Nat × Nat × Nat × Nat)} {ws : List Cond} {rm : Room} {Pc : Array Value → State → Prop} {Qc : Array Value → State → Outcome → State → Prop} {free : Addr → Prop} {Ts : List Cond} {own C : String} {b : Addr} {As rest : List Value} {g : JFrame}
    (S : CallFix p m c cc nL s args Ts own) (hM : Met l y ws rm Pc Qc mc ms free) (cw : vx_CVW R s args own C index y bytes maxL ret hh ws rm mc ms n) (hp : PreV s H C b Pc As)
    (hg : g.method = m) (hn : As.length = n) (hsize : g.locals.size = nL) (hstack : g.stack = As.reverse ++ .ref b :: rest) (hW : 2 * g.monitorRoom + (rest.map fun v => v.category).sum ≤ 8) (hdg : decode cc g.pc = .ok (.invokevirtual index, 3)) (hf : cells + mc ≤ R.cells ∧ slots + ms ≤ R.slots) :
    va_Run p l e R s m args below meth c H locs cells slots mc ms g rest (Qc (Value.ref b :: As).toArray) free := by
  obtain ⟨⟨hrc, hrs, hfr, hlo, hws, hcw⟩, hcode, hini, hy, hlen, hl, hin, hse⟩ := cw
  have hK : Back l R p e below s args y 3 8 (PreOf R mc ms Pc) (PostOf Qc mc ms free) := va_backW (hh := hh) (bytes := bytes) (maxL := maxL) (ret := ret) hM hp.1 hrc hrs hfr hlo hws hcw (fun a' U hW => word_at hW (Or.inl (by first | rfl | simp [Cond.onTables, Cond.keeps, Cond.steady])) hini)
  obtain ⟨hx, hb, hml, ho, -⟩ := S
  obtain ⟨-, ⟨cellB, hcB, hoB, hclB⟩, hPc⟩ := hp
  intro T hT X
  obtain ⟨v, vm₁, ⟨U', l2, c2, s2⟩, hW₁, X', ⟨g', mk, t, L, e1, e2, hq, h1, hL, h2, h3⟩, st⟩ := vx_callVW X hx (C := C) (hh := hh) (bytes := bytes) (maxL := maxL) (ret := ret) ho hl hin hse hcode hy hK (by rw [hT]; exact hcB) hoB hclB hg (hsize.trans hml.symm) (argsL := As) (rest := rest) (fun sig h => hn.trans (hlen sig h)) hstack hW (by rw [hb]; exact hdg)
    (fun vm₁ hW₁ => ⟨hf.1, hf.2, hPc (T.setVm vm₁) hT hW₁⟩)
  dsimp only [Pt.U, Pt.locs, Pt.cells, Pt.slots] at X' e1 e2 h1 h2 h3 st
  subst h1; subst h2; subst h3
  exact ⟨v, (T.setVm vm₁).calling g' mk (Value.ref b :: As).toArray, t, U', L, hT, X', hL, e1, e2, hq, st⟩
section
variable {y : MethodName} {bytes cc : ByteArray} {maxL nL mc ms n index : Nat} {ret : Option FieldType} {ws : List Cond} {rm : Room} {Pc : Array Value → State → Prop} {Qc : Array Value → State → Outcome → State → Prop} {XC : String → State → State → Prop} {free : Addr → Prop} {Ts : List Cond} {own C : String} {b : Addr} {As rest : List Value} {g : JFrame}
theorem vx_runVX {hh : List (Nat × Nat × Nat × Nat)} (S : CallFix p m c cc nL s args Ts own) (hM : vx_Met l y ws rm Pc Qc XC mc ms free) (cw : vx_CVW R s args own C index y bytes maxL ret hh ws rm mc ms n) (hp : PreV s H C b Pc As)
    (hg : g.method = m) (hn : As.length = n) (hsize : g.locals.size = nL) (hstack : g.stack = As.reverse ++ .ref b :: rest) (hW : 2 * g.monitorRoom + (rest.map fun v => v.category).sum ≤ 8) (hdg : decode cc g.pc = .ok (.invokevirtual index, 3)) (hf : cells + mc ≤ R.cells ∧ slots + ms ≤ R.slots) :
    vx_Run p l e R s m args below meth c H locs cells slots mc ms g rest (Qc (Value.ref b :: As).toArray) XC free := by
  obtain ⟨⟨hrc, hrs, hfr, hlo, hws, hcw⟩, hcode, hini, hy, hlen, hl, hin, hse⟩ := cw
  have hK : vx_Back l R p e below s args y 3 8 (PreOf R mc ms Pc) (PostOf Qc mc ms free) (vx_Post XC mc ms free) := vx_backW (hh := hh) (bytes := bytes) (maxL := maxL) (ret := ret) hM hp.1 hrc hrs hfr hlo hws hcw (fun a' U hW => word_at hW (Or.inl (by first | rfl | simp [Cond.onTables, Cond.keeps, Cond.steady])) hini)
  obtain ⟨hx, hb, hml, ho, -⟩ := S
  obtain ⟨-, ⟨cellB, hcB, hoB, hclB⟩, hPc⟩ := hp
  intro T hT X
  rcases vx_callVX X hx (C := C) (hh := hh) (bytes := bytes) (maxL := maxL) (ret := ret) ho hl hin hse hcode hy hK (by rw [hT]; exact hcB) hoB hclB hg (hsize.trans hml.symm) (argsL := As) (rest := rest) (fun sig h => hn.trans (hlen sig h)) hstack hW (by rw [hb]; exact hdg)
    (fun vm₁ hW₁ => ⟨hf.1, hf.2, hPc (T.setVm vm₁) hT hW₁⟩) with ⟨v, vm₁, ⟨U', l2, c2, s2⟩, hW₁, X', ⟨g', mk, t, L, e1, e2, hq, h1, hL, h2, h3⟩, st⟩ | ⟨q, vm₁, ⟨U', l2, c2, s2⟩, hW₁, X', ⟨g', mk, t, L, E, ce, e1, e2, hq, hce, hcv, hcl, h1, hL, h2, h3⟩, st⟩
  · dsimp only [Pt.U, Pt.locs, Pt.cells, Pt.slots] at X' e1 e2 h1 h2 h3 st
    subst h1; subst h2; subst h3
    exact Or.inl ⟨v, (T.setVm vm₁).calling g' mk (Value.ref b :: As).toArray, t, U', L, hT, X', hL, e1, e2, hq, st⟩
  · dsimp only [Pt.U, Pt.locs, Pt.cells, Pt.slots] at X' e1 e2 h1 h2 h3 st hcl
    subst h1; subst h2; subst h3
    exact Or.inr ⟨q, (T.setVm vm₁).calling g' mk (Value.ref b :: As).toArray, t, U', L, E, ce, hT, X', hL, e1, e2, hq, hce, hcv, vx_cls hW₁ hcl, st⟩
theorem vx_runSX {hh : List (Nat × Nat × Nat × Nat)} (S : CallFix p m c cc nL s args Ts own) (hM : vx_Met l y ws rm Pc Qc XC mc ms free) (cw : vx_CSW R s args own index y bytes maxL ret hh ws rm mc ms n) (hp : PreS s H Pc As)
    (hg : g.method = m) (hn : As.length = n) (hsize : g.locals.size = nL) (hstack : g.stack = As.reverse ++ rest) (hW : 2 * g.monitorRoom + (rest.map fun v => v.category).sum ≤ 8) (hdg : decode cc g.pc = .ok (.invokestatic index, 3)) (hf : cells + mc ≤ R.cells ∧ slots + ms ≤ R.slots) :
    vx_Run p l e R s m args below meth c H locs cells slots mc ms g rest (Qc As.toArray) XC free := by
  obtain ⟨⟨hrc, hrs, hfr, hlo, hws, hcw⟩, hcode, hini, hy, hlen, hl, hstt⟩ := cw
  have hK : vx_Back l R p e below s args y 3 8 (PreOf R mc ms Pc) (PostOf Qc mc ms free) (vx_Post XC mc ms free) := vx_backW (hh := hh) (bytes := bytes) (maxL := maxL) (ret := ret) hM hp.1 hrc hrs hfr hlo hws hcw (fun a' U hW => word_at hW (Or.inl (by first | rfl | simp [Cond.onTables, Cond.keeps, Cond.steady])) hini)
  obtain ⟨hx, hb, hml, ho, -⟩ := S
  intro T hT X
  rcases vx_callSX X hx (hh := hh) (bytes := bytes) (maxL := maxL) (ret := ret) ho hl hstt hini hcode hy hK hg (hsize.trans hml.symm) (argsL := As) (rest := rest) (fun sig h => hn.trans (hlen sig h)) hstack hW (by rw [hb]; exact hdg)
    (fun vm₁ hW₁ => ⟨hf.1, hf.2, hp.2 (T.setVm vm₁) hT hW₁⟩) with ⟨v, vm₁, ⟨U', l2, c2, s2⟩, hW₁, X', ⟨g', mk, t, L, e1, e2, hq, h1, hL, h2, h3⟩, st⟩ | ⟨q, vm₁, ⟨U', l2, c2, s2⟩, hW₁, X', ⟨g', mk, t, L, E, ce, e1, e2, hq, hce, hcv, hcl, h1, hL, h2, h3⟩, st⟩
  · dsimp only [Pt.U, Pt.locs, Pt.cells, Pt.slots] at X' e1 e2 h1 h2 h3 st
    subst h1; subst h2; subst h3
    exact Or.inl ⟨v, (T.setVm vm₁).calling g' mk As.toArray, t, U', L, hT, X', hL, e1, e2, hq, st⟩
  · dsimp only [Pt.U, Pt.locs, Pt.cells, Pt.slots] at X' e1 e2 h1 h2 h3 st hcl
    subst h1; subst h2; subst h3
    exact Or.inr ⟨q, (T.setVm vm₁).calling g' mk As.toArray, t, U', L, E, ce, hT, X', hL, e1, e2, hq, hce, hcv, vx_cls hW₁ hcl, st⟩
end
end VXH
theorem vx_ofWH {l : Launch} {y : MethodName} {ws ws' : List Cond} {rm : Room} {Pc : Array Value → State → Prop} {Qc : Array Value → State → Outcome → State → Prop} {XC : String → State → State → Prop} {mc ms : Nat} {free : Addr → Prop} {cc : ByteArray} {maxL : Nat} {ret : Option FieldType} {hh : List (Nat × Nat × Nat × Nat)}
    (hy : plainName y.cls = true) (hw : ws = Cond.codeWith y cc maxL ret hh :: ws')
    (body : ∀ p e s m args below meth c s₁, BodyLoose p l y (headSpec ws rm) cc maxL ret e s m args below meth c s₁ → c.maxLocals = maxL → Pc args s →
      W p l e (headSpec ws rm).room s m args below meth c s.heap [] 0 0 (vx_MQ below Qc XC args s mc ms free) (entryFrame m args maxL)) : vx_Met l y ws rm Pc Qc XC mc ms free := by
  refine MetFree.of_bodyS (code := cc) (maxLocals := maxL) (ret := ret) hy ?_ ?_
  · intro args s m h hn
    obtain ⟨m9, meth, c, hn9, h1, h2, h3, h4, -, h5, h6, -⟩ := Cond.codeWith_spec (atoms_spec (ws := ws) h _ (by rw [hw]; exact List.mem_cons_self))
    cases hn.symm.trans hn9
    exact ⟨meth, c, h1, h2, h3, h4, h5, h6⟩
  · intro p e s m args below meth c s₁ B hml hP _
    have hh0 : s₁.heap = s.heap := by rw [B.state]; rfl
    obtain ⟨t, a1, o, b1, b2, b3⟩ := body p e s m args below meth c s₁ B hml hP s₁ hh0 (Stand.of_body B)
    exact ⟨t, o, a1, b1, b2, b3⟩
/-! ===== END ===== -/
end
section
/-! ===== BEGIN printed: names, fields, word lists, decode rows ===== -/
def RX0 : String := "BandMill$Census"
def TX0 : u_T := fun k => match k with
  | 0 => ("BandMill$Census", "slots", "[I", true)
  | 1 => ("BandMill$Census", "bits", "I", false)
  | 2 => ("BandMill$Census", "kinds", "[I", true)
  | 3 => ("BandMill$Census", "tallies", "[I", true)
  | _ => ("BandMill$Census", "kindCount", "I", false)
def tyX0 : Nat → FieldType := fun k => match k with
  | 0 => .array .int
  | 1 => .int
  | 2 => .array .int
  | 3 => .array .int
  | _ => .int
abbrev wsX00 : List Cond := u_ws RX0 TX0 5
theorem nmX0 : ∀ a, a < 5 → ∀ b, b < 5 → a ≠ b → (TX0 a).2.1 ≠ (TX0 b).2.1 := by decide +kernel
theorem tyX0_ok : ∀ k, k < 5 → parseFieldDescriptor (TX0 k).2.2.1 = some (tyX0 k) := by decide +kernel
abbrev cX0_init : ByteArray := prog_2_method_1_code
def yX0_init : MethodName := ⟨RX0, "<init>", "()V"⟩
abbrev cX0_take : ByteArray := prog_2_method_2_code
def yX0_take : MethodName := ⟨RX0, "take", "([IIIILBandMill$Frame;)V"⟩
abbrev cX0_empty : ByteArray := prog_2_method_3_code
def yX0_empty : MethodName := ⟨RX0, "empty", "(I)V"⟩
abbrev cX0_kindOf : ByteArray := prog_2_method_4_code
def yX0_kindOf : MethodName := ⟨RX0, "kindOf", "(I)I"⟩
abbrev cX0_chooseFavourites : ByteArray := prog_2_method_5_code
def yX0_chooseFavourites : MethodName := ⟨RX0, "chooseFavourites", "(I[I)V"⟩
abbrev cX0_mostFrequent : ByteArray := prog_2_method_6_code
def yX0_mostFrequent : MethodName := ⟨RX0, "mostFrequent", "()I"⟩
def RX1 : String := "BandMill$Coding"
def TX1 : u_T := fun k => match k with
  | 0 => ("BandMill$Way", "depth", "I", true)
  | 1 => ("BandMill$Coding", "b", "I", true)
  | 2 => ("BandMill$Coding", "h", "I", true)
  | 3 => ("BandMill$Coding", "s", "I", true)
  | 4 => ("BandMill$Coding", "d", "I", true)
  | _ => ("BandMill$Coding", "low", "I", true)
def tyX1 : Nat → FieldType := fun k => match k with
  | 0 => .int
  | 1 => .int
  | 2 => .int
  | 3 => .int
  | 4 => .int
  | _ => .int
abbrev wsX10 : List Cond := u_ws RX1 TX1 6
theorem nmX1 : ∀ a, a < 6 → ∀ b, b < 6 → a ≠ b → (TX1 a).2.1 ≠ (TX1 b).2.1 := by decide +kernel
theorem tyX1_ok : ∀ k, k < 6 → parseFieldDescriptor (TX1 k).2.2.1 = some (tyX1 k) := by decide +kernel
abbrev cX1_init : ByteArray := prog_3_method_1_code
def yX1_init : MethodName := ⟨RX1, "<init>", "(IIII)V"⟩
abbrev cX1_trait : ByteArray := prog_3_method_2_code
def yX1_trait : MethodName := ⟨RX1, "trait", "(I)I"⟩
abbrev cX1_write : ByteArray := prog_3_method_3_code
def yX1_write : MethodName := ⟨RX1, "write", "(LBandMill$Desk;[III)Z"⟩
abbrev cX1_read : ByteArray := prog_3_method_4_code
def yX1_read : MethodName := ⟨RX1, "read", "(LBandMill$Desk;[III)Z"⟩
abbrev cX1_bytesOf : ByteArray := prog_3_method_5_code
def yX1_bytesOf : MethodName := ⟨RX1, "bytesOf", "(II)I"⟩
abbrev cX1_writeCode : ByteArray := prog_3_method_6_code
def yX1_writeCode : MethodName := ⟨RX1, "writeCode", "(JLBandMill$Tape;)Z"⟩
abbrev cX1_readCode : ByteArray := prog_3_method_7_code
def yX1_readCode : MethodName := ⟨RX1, "readCode", "(LBandMill$Tape;)J"⟩
abbrev cX1_codeOf : ByteArray := prog_3_method_8_code
def yX1_codeOf : MethodName := ⟨RX1, "codeOf", "(II)J"⟩
abbrev cX1_numberOf : ByteArray := prog_3_method_9_code
def yX1_numberOf : MethodName := ⟨RX1, "numberOf", "(J)J"⟩
def RX2 : String := "BandMill$Desk"
def TX2 : u_T := fun k => match k with
  | 0 => ("BandMill$Desk", "tape", "LBandMill$Tape;", true)
  | 1 => ("BandMill$Desk", "census", "LBandMill$Census;", true)
  | _ => ("BandMill$Desk", "frames", "[LBandMill$Frame;", true)
def tyX2 : Nat → FieldType := fun k => match k with
  | 0 => .object "BandMill$Tape"
  | 1 => .object "BandMill$Census"
  | _ => .array (.object "BandMill$Frame")
abbrev wsX20 : List Cond := u_ws RX2 TX2 3
theorem nmX2 : ∀ a, a < 3 → ∀ b, b < 3 → a ≠ b → (TX2 a).2.1 ≠ (TX2 b).2.1 := by decide +kernel
theorem tyX2_ok : ∀ k, k < 3 → parseFieldDescriptor (TX2 k).2.2.1 = some (tyX2 k) := by decide +kernel
abbrev cX2_init : ByteArray := prog_4_method_1_code
def yX2_init : MethodName := ⟨RX2, "<init>", "()V"⟩
def RX3 : String := "BandMill$Frame"
def TX3 : u_T := fun k => match k with
  | 0 => ("BandMill$Frame", "favourites", "[I", true)
  | _ => ("BandMill$Frame", "line", "[I", true)
def tyX3 : Nat → FieldType := fun k => match k with
  | 0 => .array .int
  | _ => .array .int
abbrev wsX30 : List Cond := u_ws RX3 TX3 2
theorem nmX3 : ∀ a, a < 2 → ∀ b, b < 2 → a ≠ b → (TX3 a).2.1 ≠ (TX3 b).2.1 := by decide +kernel
theorem tyX3_ok : ∀ k, k < 2 → parseFieldDescriptor (TX3 k).2.2.1 = some (tyX3 k) := by decide +kernel
abbrev cX3_init : ByteArray := prog_5_method_1_code
def yX3_init : MethodName := ⟨RX3, "<init>", "()V"⟩
def RX4 : String := "BandMill$Popular"
def TX4 : u_T := fun k => match k with
  | 0 => ("BandMill$Way", "depth", "I", true)
  | 1 => ("BandMill$Popular", "m", "I", true)
  | 2 => ("BandMill$Popular", "forFavourites", "LBandMill$Way;", true)
  | 3 => ("BandMill$Popular", "forTokens", "LBandMill$Way;", true)
  | _ => ("BandMill$Popular", "forOthers", "LBandMill$Way;", true)
def tyX4 : Nat → FieldType := fun k => match k with
  | 0 => .int
  | 1 => .int
  | 2 => .object "BandMill$Way"
  | 3 => .object "BandMill$Way"
  | _ => .object "BandMill$Way"
abbrev wsX40 : List Cond := u_ws RX4 TX4 5
theorem nmX4 : ∀ a, a < 5 → ∀ b, b < 5 → a ≠ b → (TX4 a).2.1 ≠ (TX4 b).2.1 := by decide +kernel
theorem tyX4_ok : ∀ k, k < 5 → parseFieldDescriptor (TX4 k).2.2.1 = some (tyX4 k) := by decide +kernel
abbrev cX4_init : ByteArray := prog_6_method_1_code
def yX4_init : MethodName := ⟨RX4, "<init>", "(IILBandMill$Way;LBandMill$Way;LBandMill$Way;)V"⟩
abbrev cX4_write : ByteArray := prog_6_method_2_code
def yX4_write : MethodName := ⟨RX4, "write", "(LBandMill$Desk;[III)Z"⟩
abbrev cX4_read : ByteArray := prog_6_method_3_code
def yX4_read : MethodName := ⟨RX4, "read", "(LBandMill$Desk;[III)Z"⟩
abbrev cX4_gatherOthers : ByteArray := prog_6_method_4_code
def yX4_gatherOthers : MethodName := ⟨RX4, "gatherOthers", "([III[I)I"⟩
abbrev cX4_countOthers : ByteArray := prog_6_method_5_code
def yX4_countOthers : MethodName := ⟨RX4, "countOthers", "([IIII)I"⟩
abbrev cX4_replaceTokens : ByteArray := prog_6_method_6_code
def yX4_replaceTokens : MethodName := ⟨RX4, "replaceTokens", "([IIILBandMill$Frame;)V"⟩
def RX5 : String := "BandMill$Run"
def TX5 : u_T := fun k => match k with
  | 0 => ("BandMill$Way", "depth", "I", true)
  | 1 => ("BandMill$Run", "n", "I", true)
  | 2 => ("BandMill$Run", "first", "LBandMill$Way;", true)
  | _ => ("BandMill$Run", "other", "LBandMill$Way;", true)
def tyX5 : Nat → FieldType := fun k => match k with
  | 0 => .int
  | 1 => .int
  | 2 => .object "BandMill$Way"
  | _ => .object "BandMill$Way"
abbrev wsX50 : List Cond := u_ws RX5 TX5 4
theorem nmX5 : ∀ a, a < 4 → ∀ b, b < 4 → a ≠ b → (TX5 a).2.1 ≠ (TX5 b).2.1 := by decide +kernel
theorem tyX5_ok : ∀ k, k < 4 → parseFieldDescriptor (TX5 k).2.2.1 = some (tyX5 k) := by decide +kernel
abbrev cX5_init : ByteArray := prog_7_method_1_code
def yX5_init : MethodName := ⟨RX5, "<init>", "(IILBandMill$Way;LBandMill$Way;)V"⟩
abbrev cX5_write : ByteArray := prog_7_method_2_code
def yX5_write : MethodName := ⟨RX5, "write", "(LBandMill$Desk;[III)Z"⟩
abbrev cX5_read : ByteArray := prog_7_method_3_code
def yX5_read : MethodName := ⟨RX5, "read", "(LBandMill$Desk;[III)Z"⟩
def RX6 : String := "BandMill$RunSearch"
def TX6 : u_T := fun k => match k with
  | 0 => ("BandMill$RunSearch", "heads", "[I", true)
  | 1 => ("BandMill$RunSearch", "tails", "[I", true)
  | 2 => ("BandMill$RunSearch", "count", "I", false)
  | 3 => ("BandMill$RunSearch", "chosenN", "I", false)
  | 4 => ("BandMill$RunSearch", "chosenFirst", "I", false)
  | _ => ("BandMill$RunSearch", "chosenOther", "I", false)
def tyX6 : Nat → FieldType := fun k => match k with
  | 0 => .array .int
  | 1 => .array .int
  | 2 => .int
  | 3 => .int
  | 4 => .int
  | _ => .int
abbrev wsX60 : List Cond := u_ws RX6 TX6 6
theorem nmX6 : ∀ a, a < 6 → ∀ b, b < 6 → a ≠ b → (TX6 a).2.1 ≠ (TX6 b).2.1 := by decide +kernel
theorem tyX6_ok : ∀ k, k < 6 → parseFieldDescriptor (TX6 k).2.2.1 = some (tyX6 k) := by decide +kernel
abbrev cX6_init : ByteArray := prog_8_method_1_code
def yX6_init : MethodName := ⟨RX6, "<init>", "()V"⟩
abbrev cX6_startRow : ByteArray := prog_8_method_2_code
def yX6_startRow : MethodName := ⟨RX6, "startRow", "(I)V"⟩
abbrev cX6_weighHeads : ByteArray := prog_8_method_3_code
def yX6_weighHeads : MethodName := ⟨RX6, "weighHeads", "(LBandMill$Coding;I[I)V"⟩
abbrev cX6_weighTails : ByteArray := prog_8_method_4_code
def yX6_weighTails : MethodName := ⟨RX6, "weighTails", "(LBandMill$Coding;I[I)V"⟩
abbrev cX6_choose : ByteArray := prog_8_method_5_code
def yX6_choose : MethodName := ⟨RX6, "choose", "()I"⟩
abbrev cX6_offer : ByteArray := prog_8_method_6_code
def yX6_offer : MethodName := ⟨RX6, "offer", "([IIII)V"⟩
abbrev cX6_sum : ByteArray := prog_8_method_7_code
def yX6_sum : MethodName := ⟨RX6, "sum", "(II)I"⟩
def RX7 : String := "BandMill$Tape"
def TX7 : u_T := fun k => match k with
  | 0 => ("BandMill$Tape", "bytes", "[B", true)
  | 1 => ("BandMill$Tape", "length", "I", false)
  | 2 => ("BandMill$Tape", "readFrom", "I", false)
  | 3 => ("BandMill$Tape", "drafted", "I", false)
  | 4 => ("BandMill$Tape", "cursor", "I", false)
  | 5 => ("BandMill$Tape", "fault", "I", false)
  | _ => ("BandMill$Tape", "faultPlace", "I", false)
def tyX7 : Nat → FieldType := fun k => match k with
  | 0 => .array .byte
  | 1 => .int
  | 2 => .int
  | 3 => .int
  | 4 => .int
  | 5 => .int
  | _ => .int
abbrev wsX70 : List Cond := u_ws RX7 TX7 7
theorem nmX7 : ∀ a, a < 7 → ∀ b, b < 7 → a ≠ b → (TX7 a).2.1 ≠ (TX7 b).2.1 := by decide +kernel
theorem tyX7_ok : ∀ k, k < 7 → parseFieldDescriptor (TX7 k).2.2.1 = some (tyX7 k) := by decide +kernel
abbrev cX7_init : ByteArray := prog_9_method_1_code
def yX7_init : MethodName := ⟨RX7, "<init>", "()V"⟩
abbrev cX7_byteAt : ByteArray := prog_9_method_2_code
def yX7_byteAt : MethodName := ⟨RX7, "byteAt", "(I)I"⟩
abbrev cX7_startDraft : ByteArray := prog_9_method_3_code
def yX7_startDraft : MethodName := ⟨RX7, "startDraft", "()V"⟩
abbrev cX7_draft : ByteArray := prog_9_method_4_code
def yX7_draft : MethodName := ⟨RX7, "draft", "(I)V"⟩
abbrev cX7_keepDraft : ByteArray := prog_9_method_5_code
def yX7_keepDraft : MethodName := ⟨RX7, "keepDraft", "()V"⟩
abbrev cX7_startReading : ByteArray := prog_9_method_6_code
def yX7_startReading : MethodName := ⟨RX7, "startReading", "()V"⟩
abbrev cX7_next : ByteArray := prog_9_method_7_code
def yX7_next : MethodName := ⟨RX7, "next", "()I"⟩
abbrev cX7_keepReading : ByteArray := prog_9_method_8_code
def yX7_keepReading : MethodName := ⟨RX7, "keepReading", "()I"⟩
abbrev cX7_fail : ByteArray := prog_9_method_9_code
def yX7_fail : MethodName := ⟨RX7, "fail", "(II)Z"⟩
def RX8 : String := "BandMill$Way"
def TX8 : u_T := fun k => match k with
  | _ => ("", "", "", false)
def tyX8 : Nat → FieldType := fun k => match k with
  | _ => .int
abbrev wsX80 : List Cond := u_ws RX8 TX8 0
theorem nmX8 : ∀ a, a < 0 → ∀ b, b < 0 → a ≠ b → (TX8 a).2.1 ≠ (TX8 b).2.1 := by decide +kernel
theorem tyX8_ok : ∀ k, k < 0 → parseFieldDescriptor (TX8 k).2.2.1 = some (tyX8 k) := by decide +kernel
abbrev cX8_init : ByteArray := prog_10_method_1_code
def yX8_init : MethodName := ⟨RX8, "<init>", "(I)V"⟩
abbrev cX8_trait : ByteArray := prog_10_method_4_code
def yX8_trait : MethodName := ⟨RX8, "trait", "(I)I"⟩
def RX9 : String := "BandMill"
def TX9 : u_T := fun k => match k with
  | 0 => ("BandMill", "ways", "[LBandMill$Way;", true)
  | 1 => ("BandMill", "wayCount", "I", false)
  | 2 => ("BandMill", "numbers", "[I", true)
  | 3 => ("BandMill", "numberCount", "I", false)
  | 4 => ("BandMill", "unpacked", "[I", true)
  | 5 => ("BandMill", "desk", "LBandMill$Desk;", true)
  | 6 => ("BandMill", "search", "LBandMill$RunSearch;", true)
  | _ => ("BandMill", "faultPlace", "I", false)
def tyX9 : Nat → FieldType := fun k => match k with
  | 0 => .array (.object "BandMill$Way")
  | 1 => .int
  | 2 => .array .int
  | 3 => .int
  | 4 => .array .int
  | 5 => .object "BandMill$Desk"
  | 6 => .object "BandMill$RunSearch"
  | _ => .int
abbrev wsX90 : List Cond := u_ws RX9 TX9 8
theorem nmX9 : ∀ a, a < 8 → ∀ b, b < 8 → a ≠ b → (TX9 a).2.1 ≠ (TX9 b).2.1 := by decide +kernel
theorem tyX9_ok : ∀ k, k < 8 → parseFieldDescriptor (TX9 k).2.2.1 = some (tyX9 k) := by decide +kernel
abbrev cX9_init : ByteArray := prog_1_method_1_code
def yX9_init : MethodName := ⟨RX9, "<init>", "()V"⟩
abbrev cX9_coding : ByteArray := prog_1_method_2_code
def yX9_coding : MethodName := ⟨RX9, "coding", "(IIII)I"⟩
abbrev cX9_run : ByteArray := prog_1_method_3_code
def yX9_run : MethodName := ⟨RX9, "run", "(III)I"⟩
abbrev cX9_popular : ByteArray := prog_1_method_4_code
def yX9_popular : MethodName := ⟨RX9, "popular", "(IIII)I"⟩
abbrev cX9_number : ByteArray := prog_1_method_5_code
def yX9_number : MethodName := ⟨RX9, "number", "(I)I"⟩
abbrev cX9_clear : ByteArray := prog_1_method_6_code
def yX9_clear : MethodName := ⟨RX9, "clear", "()I"⟩
abbrev cX9_row : ByteArray := prog_1_method_7_code
def yX9_row : MethodName := ⟨RX9, "row", "(I)I"⟩
abbrev cX9_cost : ByteArray := prog_1_method_8_code
def yX9_cost : MethodName := ⟨RX9, "cost", "(I)I"⟩
abbrev cX9_pack : ByteArray := prog_1_method_9_code
def yX9_pack : MethodName := ⟨RX9, "pack", "(I)I"⟩
abbrev cX9_unpack : ByteArray := prog_1_method_10_code
def yX9_unpack : MethodName := ⟨RX9, "unpack", "(II)I"⟩
abbrev cX9_place : ByteArray := prog_1_method_11_code
def yX9_place : MethodName := ⟨RX9, "place", "()I"⟩
abbrev cX9_best : ByteArray := prog_1_method_12_code
def yX9_best : MethodName := ⟨RX9, "best", "(II)I"⟩
abbrev cX9_bestRun : ByteArray := prog_1_method_13_code
def yX9_bestRun : MethodName := ⟨RX9, "bestRun", "()I"⟩
abbrev cX9_chosen : ByteArray := prog_1_method_14_code
def yX9_chosen : MethodName := ⟨RX9, "chosen", "(I)I"⟩
abbrev cX9_feed : ByteArray := prog_1_method_15_code
def yX9_feed : MethodName := ⟨RX9, "feed", "(I)I"⟩
abbrev cX9_end : ByteArray := prog_1_method_16_code
def yX9_end : MethodName := ⟨RX9, "end", "(I)V"⟩
abbrev cX9_seek : ByteArray := prog_1_method_17_code
def yX9_seek : MethodName := ⟨RX9, "seek", "(I)I"⟩
abbrev cX9_tape : ByteArray := prog_1_method_18_code
def yX9_tape : MethodName := ⟨RX9, "tape", "(I)I"⟩
abbrev cX9_way : ByteArray := prog_1_method_19_code
def yX9_way : MethodName := ⟨RX9, "way", "(II)I"⟩
abbrev cX9_about : ByteArray := prog_1_method_20_code
def yX9_about : MethodName := ⟨RX9, "about", "(I)I"⟩
abbrev cX9_checkRange : ByteArray := prog_1_method_21_code
def yX9_checkRange : MethodName := ⟨RX9, "checkRange", "(III)V"⟩
abbrev cX9_wayAt : ByteArray := prog_1_method_22_code
def yX9_wayAt : MethodName := ⟨RX9, "wayAt", "(I)LBandMill$Way;"⟩
abbrev cX9_checkRoomForWay : ByteArray := prog_1_method_23_code
def yX9_checkRoomForWay : MethodName := ⟨RX9, "checkRoomForWay", "(I)V"⟩
abbrev cX9_addWay : ByteArray := prog_1_method_24_code
def yX9_addWay : MethodName := ⟨RX9, "addWay", "(LBandMill$Way;)I"⟩
abbrev cX9_checkRoomOnTape : ByteArray := prog_1_method_25_code
def yX9_checkRoomOnTape : MethodName := ⟨RX9, "checkRoomOnTape", "(I)V"⟩
abbrev cX9_draftRow : ByteArray := prog_1_method_26_code
def yX9_draftRow : MethodName := ⟨RX9, "draftRow", "(LBandMill$Way;)I"⟩
def RX10 : String := "BandMillModel"
def TX10 : u_T := fun k => match k with
  | 0 => ("BandMillModel", "code", "I", false)
  | 1 => ("BandMillModel", "ways", "I", false)
  | 2 => ("BandMillModel", "sort", "[I", true)
  | 3 => ("BandMillModel", "one", "[I", true)
  | 4 => ("BandMillModel", "two", "[I", true)
  | 5 => ("BandMillModel", "three", "[I", true)
  | 6 => ("BandMillModel", "four", "[I", true)
  | 7 => ("BandMillModel", "depth", "[I", true)
  | 8 => ("BandMillModel", "many", "I", false)
  | 9 => ("BandMillModel", "row", "[I", true)
  | 10 => ("BandMillModel", "length", "I", false)
  | 11 => ("BandMillModel", "reading", "I", false)
  | 12 => ("BandMillModel", "tape", "[I", true)
  | 13 => ("BandMillModel", "place", "I", false)
  | 14 => ("BandMillModel", "chosenN", "I", false)
  | 15 => ("BandMillModel", "chosenFirst", "I", false)
  | 16 => ("BandMillModel", "chosenOther", "I", false)
  | 17 => ("BandMillModel", "pool", "[I", true)
  | 18 => ("BandMillModel", "used", "I", false)
  | 19 => ("BandMillModel", "taskWay", "[I", true)
  | 20 => ("BandMillModel", "taskFirst", "[I", true)
  | 21 => ("BandMillModel", "taskMany", "[I", true)
  | 22 => ("BandMillModel", "tasks", "I", false)
  | 23 => ("BandMillModel", "often", "[I", true)
  | 24 => ("BandMillModel", "written", "I", false)
  | 25 => ("BandMillModel", "out", "[I", true)
  | 26 => ("BandMillModel", "inWay", "[I", true)
  | 27 => ("BandMillModel", "inMany", "[I", true)
  | 28 => ("BandMillModel", "inTo", "[I", true)
  | 29 => ("BandMillModel", "inState", "[I", true)
  | 30 => ("BandMillModel", "inRow", "[I", true)
  | 31 => ("BandMillModel", "inFavourites", "[I", true)
  | 32 => ("BandMillModel", "inTokens", "[I", true)
  | 33 => ("BandMillModel", "inOthers", "[I", true)
  | 34 => ("BandMillModel", "inByte", "[I", true)
  | 35 => ("BandMillModel", "at", "I", false)
  | 36 => ("BandMillModel", "fault", "I", false)
  | 37 => ("BandMillModel", "faultAt", "I", false)
  | 38 => ("BandMillModel", "ahead", "[I", true)
  | _ => ("BandMillModel", "behind", "[I", true)
def tyX10 : Nat → FieldType := fun k => match k with
  | 0 => .int
  | 1 => .int
  | 2 => .array .int
  | 3 => .array .int
  | 4 => .array .int
  | 5 => .array .int
  | 6 => .array .int
  | 7 => .array .int
  | 8 => .int
  | 9 => .array .int
  | 10 => .int
  | 11 => .int
  | 12 => .array .int
  | 13 => .int
  | 14 => .int
  | 15 => .int
  | 16 => .int
  | 17 => .array .int
  | 18 => .int
  | 19 => .array .int
  | 20 => .array .int
  | 21 => .array .int
  | 22 => .int
  | 23 => .array .int
  | 24 => .int
  | 25 => .array .int
  | 26 => .array .int
  | 27 => .array .int
  | 28 => .array .int
  | 29 => .array .int
  | 30 => .array .int
  | 31 => .array .int
  | 32 => .array .int
  | 33 => .array .int
  | 34 => .array .int
  | 35 => .int
  | 36 => .int
  | 37 => .int
  | 38 => .array .int
  | _ => .array .int
abbrev wsX100 : List Cond := u_ws RX10 TX10 40
theorem nmX10 : ∀ a, a < 40 → ∀ b, b < 40 → a ≠ b → (TX10 a).2.1 ≠ (TX10 b).2.1 := by decide +kernel
theorem tyX10_ok : ∀ k, k < 40 → parseFieldDescriptor (TX10 k).2.2.1 = some (tyX10 k) := by decide +kernel
abbrev cX10_init : ByteArray := prog_12_method_1_code
def yX10_init : MethodName := ⟨RX10, "<init>", "()V"⟩
abbrev cX10_thrown : ByteArray := prog_12_method_2_code
def yX10_thrown : MethodName := ⟨RX10, "thrown", "()I"⟩
abbrev cX10_refuses : ByteArray := prog_12_method_3_code
def yX10_refuses : MethodName := ⟨RX10, "refuses", "(I)Z"⟩
abbrev cX10_isWay : ByteArray := prog_12_method_4_code
def yX10_isWay : MethodName := ⟨RX10, "isWay", "(I)Z"⟩
abbrev cX10_add : ByteArray := prog_12_method_5_code
def yX10_add : MethodName := ⟨RX10, "add", "(IIIII)I"⟩
abbrev cX10_coding : ByteArray := prog_12_method_6_code
def yX10_coding : MethodName := ⟨RX10, "coding", "(IIII)I"⟩
abbrev cX10_deep : ByteArray := prog_12_method_7_code
def yX10_deep : MethodName := ⟨RX10, "deep", "(II)I"⟩
abbrev cX10_run : ByteArray := prog_12_method_8_code
def yX10_run : MethodName := ⟨RX10, "run", "(III)I"⟩
abbrev cX10_popular : ByteArray := prog_12_method_9_code
def yX10_popular : MethodName := ⟨RX10, "popular", "(IIII)I"⟩
abbrev cX10_number : ByteArray := prog_12_method_10_code
def yX10_number : MethodName := ⟨RX10, "number", "(I)I"⟩
abbrev cX10_clear : ByteArray := prog_12_method_11_code
def yX10_clear : MethodName := ⟨RX10, "clear", "()I"⟩
abbrev cX10_row : ByteArray := prog_12_method_12_code
def yX10_row : MethodName := ⟨RX10, "row", "(I)I"⟩
abbrev cX10_codeOf : ByteArray := prog_12_method_13_code
def yX10_codeOf : MethodName := ⟨RX10, "codeOf", "(JI)J"⟩
abbrev cX10_bytes : ByteArray := prog_12_method_14_code
def yX10_bytes : MethodName := ⟨RX10, "bytes", "(IIZ)I"⟩
abbrev cX10_told : ByteArray := prog_12_method_15_code
def yX10_told : MethodName := ⟨RX10, "told", "(III)I"⟩
abbrev cX10_task : ByteArray := prog_12_method_16_code
def yX10_task : MethodName := ⟨RX10, "task", "(III)V"⟩
abbrev cX10_writes : ByteArray := prog_12_method_17_code
def yX10_writes : MethodName := ⟨RX10, "writes", "(I)Z"⟩
abbrev cX10_favours : ByteArray := prog_12_method_18_code
def yX10_favours : MethodName := ⟨RX10, "favours", "(III)V"⟩
abbrev cX10_cost : ByteArray := prog_12_method_19_code
def yX10_cost : MethodName := ⟨RX10, "cost", "(I)I"⟩
abbrev cX10_pack : ByteArray := prog_12_method_20_code
def yX10_pack : MethodName := ⟨RX10, "pack", "(I)I"⟩
abbrev cX10_into : ByteArray := prog_12_method_21_code
def yX10_into : MethodName := ⟨RX10, "into", "(IIII)V"⟩
abbrev cX10_room : ByteArray := prog_12_method_22_code
def yX10_room : MethodName := ⟨RX10, "room", "(I)I"⟩
abbrev cX10_fails : ByteArray := prog_12_method_23_code
def yX10_fails : MethodName := ⟨RX10, "fails", "(II)V"⟩
abbrev cX10_readsCodes : ByteArray := prog_12_method_24_code
def yX10_readsCodes : MethodName := ⟨RX10, "readsCodes", "(III)V"⟩
abbrev cX10_reads : ByteArray := prog_12_method_25_code
def yX10_reads : MethodName := ⟨RX10, "reads", "(II)V"⟩
abbrev cX10_readsPopular : ByteArray := prog_12_method_26_code
def yX10_readsPopular : MethodName := ⟨RX10, "readsPopular", "(II)V"⟩
abbrev cX10_unpack : ByteArray := prog_12_method_27_code
def yX10_unpack : MethodName := ⟨RX10, "unpack", "(II)I"⟩
abbrev cX10_place : ByteArray := prog_12_method_28_code
def yX10_place : MethodName := ⟨RX10, "place", "()I"⟩
abbrev cX10_best : ByteArray := prog_12_method_29_code
def yX10_best : MethodName := ⟨RX10, "best", "(II)I"⟩
abbrev cX10_sums : ByteArray := prog_12_method_30_code
def yX10_sums : MethodName := ⟨RX10, "sums", "(I)V"⟩
abbrev cX10_bestRun : ByteArray := prog_12_method_31_code
def yX10_bestRun : MethodName := ⟨RX10, "bestRun", "()I"⟩
abbrev cX10_chosen : ByteArray := prog_12_method_32_code
def yX10_chosen : MethodName := ⟨RX10, "chosen", "(I)I"⟩
abbrev cX10_feed : ByteArray := prog_12_method_33_code
def yX10_feed : MethodName := ⟨RX10, "feed", "(I)I"⟩
abbrev cX10_end : ByteArray := prog_12_method_34_code
def yX10_end : MethodName := ⟨RX10, "end", "(I)V"⟩
abbrev cX10_seek : ByteArray := prog_12_method_35_code
def yX10_seek : MethodName := ⟨RX10, "seek", "(I)I"⟩
abbrev cX10_tape : ByteArray := prog_12_method_36_code
def yX10_tape : MethodName := ⟨RX10, "tape", "(I)I"⟩
abbrev cX10_way : ByteArray := prog_12_method_37_code
def yX10_way : MethodName := ⟨RX10, "way", "(II)I"⟩
abbrev cX10_about : ByteArray := prog_12_method_38_code
def yX10_about : MethodName := ⟨RX10, "about", "(I)I"⟩
def RJ9 : String := "java/lang/Math"
def TJ9 : u_T := fun k => match k with
  | _ => ("", "", "", false)
def tyJ9 : Nat → FieldType := fun k => match k with
  | _ => .int
abbrev wsJ90 : List Cond := u_ws RJ9 TJ9 0
theorem nmJ9 : ∀ a, a < 0 → ∀ b, b < 0 → a ≠ b → (TJ9 a).2.1 ≠ (TJ9 b).2.1 := by decide +kernel
theorem tyJ9_ok : ∀ k, k < 0 → parseFieldDescriptor (TJ9 k).2.2.1 = some (tyJ9 k) := by decide +kernel
abbrev cJ9_max_7cf53 : ByteArray := prog_16_method_65_code
def yJ9_max_7cf53 : MethodName := ⟨RJ9, "max", "(II)I"⟩
abbrev cJ9_min_7cf53 : ByteArray := prog_16_method_69_code
def yJ9_min_7cf53 : MethodName := ⟨RJ9, "min", "(II)I"⟩
def RJ0 : String := "java/lang/String"
def TJ0 : u_T := fun k => match k with
  | _ => ("", "", "", false)
def tyJ0 : Nat → FieldType := fun k => match k with
  | _ => .int
abbrev wsJ00 : List Cond := u_ws RJ0 TJ0 0
theorem nmJ0 : ∀ a, a < 0 → ∀ b, b < 0 → a ≠ b → (TJ0 a).2.1 ≠ (TJ0 b).2.1 := by decide +kernel
theorem tyJ0_ok : ∀ k, k < 0 → parseFieldDescriptor (TJ0 k).2.2.1 = some (tyJ0 k) := by decide +kernel
def RJ10 : String := "java/lang/System"
def TJ10 : u_T := fun k => match k with
  | _ => ("", "", "", false)
def tyJ10 : Nat → FieldType := fun k => match k with
  | _ => .int
abbrev wsJ100 : List Cond := u_ws RJ10 TJ10 0
theorem nmJ10 : ∀ a, a < 0 → ∀ b, b < 0 → a ≠ b → (TJ10 a).2.1 ≠ (TJ10 b).2.1 := by decide +kernel
theorem tyJ10_ok : ∀ k, k < 0 → parseFieldDescriptor (TJ10 k).2.2.1 = some (tyJ10 k) := by decide +kernel
def RL : String := "BandMillLaw"
abbrev cL_coding : ByteArray := method_3_code
def yL_coding : MethodName := ⟨RL, "coding", "(LBandMill;IIII[J)I"⟩
abbrev cL_run : ByteArray := method_4_code
def yL_run : MethodName := ⟨RL, "run", "(LBandMill;III[J)I"⟩
abbrev cL_popular : ByteArray := method_5_code
def yL_popular : MethodName := ⟨RL, "popular", "(LBandMill;IIII[J)I"⟩
abbrev cL_number : ByteArray := method_6_code
def yL_number : MethodName := ⟨RL, "number", "(LBandMill;I[J)I"⟩
abbrev cL_cost : ByteArray := method_7_code
def yL_cost : MethodName := ⟨RL, "cost", "(LBandMill;I[J)I"⟩
abbrev cL_pack : ByteArray := method_8_code
def yL_pack : MethodName := ⟨RL, "pack", "(LBandMill;I[J)I"⟩
abbrev cL_unpack : ByteArray := method_9_code
def yL_unpack : MethodName := ⟨RL, "unpack", "(LBandMill;II[J)I"⟩
abbrev cL_best : ByteArray := method_10_code
def yL_best : MethodName := ⟨RL, "best", "(LBandMill;II[J)I"⟩
abbrev cL_chosen : ByteArray := method_11_code
def yL_chosen : MethodName := ⟨RL, "chosen", "(LBandMill;I[J)I"⟩
abbrev cL_feed : ByteArray := method_12_code
def yL_feed : MethodName := ⟨RL, "feed", "(LBandMill;I[J)I"⟩
abbrev cL_end : ByteArray := method_13_code
def yL_end : MethodName := ⟨RL, "end", "(LBandMill;I)I"⟩
abbrev cL_seek : ByteArray := method_14_code
def yL_seek : MethodName := ⟨RL, "seek", "(LBandMill;I[J)I"⟩
abbrev cL_way : ByteArray := method_15_code
def yL_way : MethodName := ⟨RL, "way", "(LBandMill;II[J)I"⟩
abbrev cL_about : ByteArray := method_16_code
def yL_about : MethodName := ⟨RL, "about", "(LBandMill;I[J)I"⟩
abbrev cL_law : ByteArray := code
def yL_law : MethodName := ⟨RL, "law", "([I)Z"⟩
abbrev vwCl : List vw_C := [(RX0, TX0, 5), (RX1, TX1, 6), (RX2, TX2, 3), (RX3, TX3, 2), (RX4, TX4, 5), (RX5, TX5, 4), (RX6, TX6, 6), (RX7, TX7, 7), (RX9, TX9, 8), (RX10, TX10, 40)]
end
section
theorem dX0_init_0 : decode cX0_init 0 = .ok (.aload_n 0, 1) := by decide +kernel
theorem dX0_init_1 : decode cX0_init 1 = .ok (.invokespecial 3, 3) := by decide +kernel
theorem dX0_init_4 : decode cX0_init 4 = .ok (.aload_n 0, 1) := by decide +kernel
theorem dX0_init_5 : decode cX0_init 5 = .ok (.sipush 512, 3) := by decide +kernel
theorem dX0_init_8 : decode cX0_init 8 = .ok (.newarray .int, 2) := by decide +kernel
theorem dX0_init_10 : decode cX0_init 10 = .ok (.putfield 11, 3) := by decide +kernel
theorem dX0_init_13 : decode cX0_init 13 = .ok (.aload_n 0, 1) := by decide +kernel
theorem dX0_init_14 : decode cX0_init 14 = .ok (.iconst 1, 1) := by decide +kernel
theorem dX0_init_15 : decode cX0_init 15 = .ok (.putfield 15, 3) := by decide +kernel
theorem dX0_init_18 : decode cX0_init 18 = .ok (.aload_n 0, 1) := by decide +kernel
theorem dX0_init_19 : decode cX0_init 19 = .ok (.sipush 400, 3) := by decide +kernel
theorem dX0_init_22 : decode cX0_init 22 = .ok (.newarray .int, 2) := by decide +kernel
theorem dX0_init_24 : decode cX0_init 24 = .ok (.putfield 19, 3) := by decide +kernel
theorem dX0_init_27 : decode cX0_init 27 = .ok (.aload_n 0, 1) := by decide +kernel
theorem dX0_init_28 : decode cX0_init 28 = .ok (.sipush 400, 3) := by decide +kernel
theorem dX0_init_31 : decode cX0_init 31 = .ok (.newarray .int, 2) := by decide +kernel
theorem dX0_init_33 : decode cX0_init 33 = .ok (.putfield 22, 3) := by decide +kernel
theorem dX0_init_36 : decode cX0_init 36 = .ok (.aload_n 0, 1) := by decide +kernel
theorem dX0_init_37 : decode cX0_init 37 = .ok (.iconst 0, 1) := by decide +kernel
theorem dX0_init_38 : decode cX0_init 38 = .ok (.putfield 25, 3) := by decide +kernel
theorem dX0_init_41 : decode cX0_init 41 = .ok (.return_, 1) := by decide +kernel
theorem dX0_take_0 : decode cX0_take 0 = .ok (.aload_n 0, 1) := by decide +kernel
theorem dX0_take_1 : decode cX0_take 1 = .ok (.iload_n 3, 1) := by decide +kernel
theorem dX0_take_2 : decode cX0_take 2 = .ok (.invokevirtual 28, 3) := by decide +kernel
theorem dX0_take_5 : decode cX0_take 5 = .ok (.iconst 0, 1) := by decide +kernel
theorem dX0_take_6 : decode cX0_take 6 = .ok (.istore 6, 2) := by decide +kernel
theorem dX0_take_8 : decode cX0_take 8 = .ok (.iload 6, 2) := by decide +kernel
theorem dX0_take_10 : decode cX0_take 10 = .ok (.iload_n 3, 1) := by decide +kernel
theorem dX0_take_11 : decode cX0_take 11 = .ok (.if_icmp .ge 42, 3) := by decide +kernel
theorem dX0_take_14 : decode cX0_take 14 = .ok (.aload_n 0, 1) := by decide +kernel
theorem dX0_take_15 : decode cX0_take 15 = .ok (.aload_n 1, 1) := by decide +kernel
theorem dX0_take_16 : decode cX0_take 16 = .ok (.iload_n 2, 1) := by decide +kernel
theorem dX0_take_17 : decode cX0_take 17 = .ok (.iload 6, 2) := by decide +kernel
theorem dX0_take_19 : decode cX0_take 19 = .ok (.iadd, 1) := by decide +kernel
theorem dX0_take_20 : decode cX0_take 20 = .ok (.iaload, 1) := by decide +kernel
theorem dX0_take_21 : decode cX0_take 21 = .ok (.invokevirtual 32, 3) := by decide +kernel
theorem dX0_take_24 : decode cX0_take 24 = .ok (.istore 7, 2) := by decide +kernel
theorem dX0_take_26 : decode cX0_take 26 = .ok (.aload_n 0, 1) := by decide +kernel
theorem dX0_take_27 : decode cX0_take 27 = .ok (.getfield 22, 3) := by decide +kernel
theorem dX0_take_30 : decode cX0_take 30 = .ok (.iload 7, 2) := by decide +kernel
theorem dX0_take_32 : decode cX0_take 32 = .ok (.dup2, 1) := by decide +kernel
theorem dX0_take_33 : decode cX0_take 33 = .ok (.iaload, 1) := by decide +kernel
theorem dX0_take_34 : decode cX0_take 34 = .ok (.iconst 1, 1) := by decide +kernel
theorem dX0_take_35 : decode cX0_take 35 = .ok (.iadd, 1) := by decide +kernel
theorem dX0_take_36 : decode cX0_take 36 = .ok (.iastore, 1) := by decide +kernel
theorem dX0_take_37 : decode cX0_take 37 = .ok (.aload 5, 2) := by decide +kernel
theorem dX0_take_39 : decode cX0_take 39 = .ok (.getfield 36, 3) := by decide +kernel
theorem dX0_take_42 : decode cX0_take 42 = .ok (.iload 6, 2) := by decide +kernel
theorem dX0_take_44 : decode cX0_take 44 = .ok (.iload 7, 2) := by decide +kernel
theorem dX0_take_46 : decode cX0_take 46 = .ok (.iastore, 1) := by decide +kernel
theorem dX0_take_47 : decode cX0_take 47 = .ok (.iinc 6 1, 3) := by decide +kernel
theorem dX0_take_50 : decode cX0_take 50 = .ok (.goto (-42), 3) := by decide +kernel
theorem dX0_take_53 : decode cX0_take 53 = .ok (.aload_n 0, 1) := by decide +kernel
theorem dX0_take_54 : decode cX0_take 54 = .ok (.iload 4, 2) := by decide +kernel
theorem dX0_take_56 : decode cX0_take 56 = .ok (.aload 5, 2) := by decide +kernel
theorem dX0_take_58 : decode cX0_take 58 = .ok (.getfield 41, 3) := by decide +kernel
theorem dX0_take_61 : decode cX0_take 61 = .ok (.invokevirtual 44, 3) := by decide +kernel
theorem dX0_take_64 : decode cX0_take 64 = .ok (.iconst 0, 1) := by decide +kernel
theorem dX0_take_65 : decode cX0_take 65 = .ok (.istore 6, 2) := by decide +kernel
theorem dX0_take_67 : decode cX0_take 67 = .ok (.iload 6, 2) := by decide +kernel
theorem dX0_take_69 : decode cX0_take 69 = .ok (.iload_n 3, 1) := by decide +kernel
theorem dX0_take_70 : decode cX0_take 70 = .ok (.if_icmp .ge 35, 3) := by decide +kernel
theorem dX0_take_73 : decode cX0_take 73 = .ok (.aload 5, 2) := by decide +kernel
theorem dX0_take_75 : decode cX0_take 75 = .ok (.getfield 36, 3) := by decide +kernel
theorem dX0_take_78 : decode cX0_take 78 = .ok (.iload 6, 2) := by decide +kernel
theorem dX0_take_80 : decode cX0_take 80 = .ok (.iconst 0, 1) := by decide +kernel
theorem dX0_take_81 : decode cX0_take 81 = .ok (.aload_n 0, 1) := by decide +kernel
theorem dX0_take_82 : decode cX0_take 82 = .ok (.getfield 22, 3) := by decide +kernel
theorem dX0_take_85 : decode cX0_take 85 = .ok (.aload 5, 2) := by decide +kernel
theorem dX0_take_87 : decode cX0_take 87 = .ok (.getfield 36, 3) := by decide +kernel
theorem dX0_take_90 : decode cX0_take 90 = .ok (.iload 6, 2) := by decide +kernel
theorem dX0_take_92 : decode cX0_take 92 = .ok (.iaload, 1) := by decide +kernel
theorem dX0_take_93 : decode cX0_take 93 = .ok (.iaload, 1) := by decide +kernel
theorem dX0_take_94 : decode cX0_take 94 = .ok (.ineg, 1) := by decide +kernel
theorem dX0_take_95 : decode cX0_take 95 = .ok (.invokestatic 48, 3) := by decide +kernel
theorem dX0_take_98 : decode cX0_take 98 = .ok (.iastore, 1) := by decide +kernel
theorem dX0_take_99 : decode cX0_take 99 = .ok (.iinc 6 1, 3) := by decide +kernel
theorem dX0_take_102 : decode cX0_take 102 = .ok (.goto (-35), 3) := by decide +kernel
theorem dX0_take_105 : decode cX0_take 105 = .ok (.return_, 1) := by decide +kernel
theorem dX0_empty_0 : decode cX0_empty 0 = .ok (.aload_n 0, 1) := by decide +kernel
theorem dX0_empty_1 : decode cX0_empty 1 = .ok (.iconst 1, 1) := by decide +kernel
theorem dX0_empty_2 : decode cX0_empty 2 = .ok (.putfield 15, 3) := by decide +kernel
theorem dX0_empty_5 : decode cX0_empty 5 = .ok (.aload_n 0, 1) := by decide +kernel
theorem dX0_empty_6 : decode cX0_empty 6 = .ok (.getfield 15, 3) := by decide +kernel
theorem dX0_empty_9 : decode cX0_empty 9 = .ok (.bipush 9, 2) := by decide +kernel
theorem dX0_empty_11 : decode cX0_empty 11 = .ok (.if_icmp .ge 28, 3) := by decide +kernel
theorem dX0_empty_14 : decode cX0_empty 14 = .ok (.iconst 1, 1) := by decide +kernel
theorem dX0_empty_15 : decode cX0_empty 15 = .ok (.aload_n 0, 1) := by decide +kernel
theorem dX0_empty_16 : decode cX0_empty 16 = .ok (.getfield 15, 3) := by decide +kernel
theorem dX0_empty_19 : decode cX0_empty 19 = .ok (.ishl, 1) := by decide +kernel
theorem dX0_empty_20 : decode cX0_empty 20 = .ok (.iconst 2, 1) := by decide +kernel
theorem dX0_empty_21 : decode cX0_empty 21 = .ok (.iload_n 1, 1) := by decide +kernel
theorem dX0_empty_22 : decode cX0_empty 22 = .ok (.imul, 1) := by decide +kernel
theorem dX0_empty_23 : decode cX0_empty 23 = .ok (.if_icmp .ge 16, 3) := by decide +kernel
theorem dX0_empty_26 : decode cX0_empty 26 = .ok (.aload_n 0, 1) := by decide +kernel
theorem dX0_empty_27 : decode cX0_empty 27 = .ok (.dup, 1) := by decide +kernel
theorem dX0_empty_28 : decode cX0_empty 28 = .ok (.getfield 15, 3) := by decide +kernel
theorem dX0_empty_31 : decode cX0_empty 31 = .ok (.iconst 1, 1) := by decide +kernel
theorem dX0_empty_32 : decode cX0_empty 32 = .ok (.iadd, 1) := by decide +kernel
theorem dX0_empty_33 : decode cX0_empty 33 = .ok (.putfield 15, 3) := by decide +kernel
theorem dX0_empty_36 : decode cX0_empty 36 = .ok (.goto (-31), 3) := by decide +kernel
theorem dX0_empty_39 : decode cX0_empty 39 = .ok (.iconst 0, 1) := by decide +kernel
theorem dX0_empty_40 : decode cX0_empty 40 = .ok (.istore_n 2, 1) := by decide +kernel
theorem dX0_empty_41 : decode cX0_empty 41 = .ok (.iload_n 2, 1) := by decide +kernel
theorem dX0_empty_42 : decode cX0_empty 42 = .ok (.iconst 1, 1) := by decide +kernel
theorem dX0_empty_43 : decode cX0_empty 43 = .ok (.aload_n 0, 1) := by decide +kernel
theorem dX0_empty_44 : decode cX0_empty 44 = .ok (.getfield 15, 3) := by decide +kernel
theorem dX0_empty_47 : decode cX0_empty 47 = .ok (.ishl, 1) := by decide +kernel
theorem dX0_empty_48 : decode cX0_empty 48 = .ok (.if_icmp .ge 16, 3) := by decide +kernel
theorem dX0_empty_51 : decode cX0_empty 51 = .ok (.aload_n 0, 1) := by decide +kernel
theorem dX0_empty_52 : decode cX0_empty 52 = .ok (.getfield 11, 3) := by decide +kernel
theorem dX0_empty_55 : decode cX0_empty 55 = .ok (.iload_n 2, 1) := by decide +kernel
theorem dX0_empty_56 : decode cX0_empty 56 = .ok (.iconst 0, 1) := by decide +kernel
theorem dX0_empty_57 : decode cX0_empty 57 = .ok (.iastore, 1) := by decide +kernel
theorem dX0_empty_58 : decode cX0_empty 58 = .ok (.iinc 2 1, 3) := by decide +kernel
theorem dX0_empty_61 : decode cX0_empty 61 = .ok (.goto (-20), 3) := by decide +kernel
theorem dX0_empty_64 : decode cX0_empty 64 = .ok (.aload_n 0, 1) := by decide +kernel
theorem dX0_empty_65 : decode cX0_empty 65 = .ok (.iconst 0, 1) := by decide +kernel
theorem dX0_empty_66 : decode cX0_empty 66 = .ok (.putfield 25, 3) := by decide +kernel
theorem dX0_empty_69 : decode cX0_empty 69 = .ok (.return_, 1) := by decide +kernel
theorem dX0_kindOf_0 : decode cX0_kindOf 0 = .ok (.iconst 1, 1) := by decide +kernel
theorem dX0_kindOf_1 : decode cX0_kindOf 1 = .ok (.aload_n 0, 1) := by decide +kernel
theorem dX0_kindOf_2 : decode cX0_kindOf 2 = .ok (.getfield 15, 3) := by decide +kernel
theorem dX0_kindOf_5 : decode cX0_kindOf 5 = .ok (.ishl, 1) := by decide +kernel
theorem dX0_kindOf_6 : decode cX0_kindOf 6 = .ok (.istore_n 2, 1) := by decide +kernel
theorem dX0_kindOf_7 : decode cX0_kindOf 7 = .ok (.iload_n 1, 1) := by decide +kernel
theorem dX0_kindOf_8 : decode cX0_kindOf 8 = .ok (.ldc 54, 2) := by decide +kernel
theorem dX0_kindOf_10 : decode cX0_kindOf 10 = .ok (.imul, 1) := by decide +kernel
theorem dX0_kindOf_11 : decode cX0_kindOf 11 = .ok (.bipush 32, 2) := by decide +kernel
theorem dX0_kindOf_13 : decode cX0_kindOf 13 = .ok (.aload_n 0, 1) := by decide +kernel
theorem dX0_kindOf_14 : decode cX0_kindOf 14 = .ok (.getfield 15, 3) := by decide +kernel
theorem dX0_kindOf_17 : decode cX0_kindOf 17 = .ok (.isub, 1) := by decide +kernel
theorem dX0_kindOf_18 : decode cX0_kindOf 18 = .ok (.iushr, 1) := by decide +kernel
theorem dX0_kindOf_19 : decode cX0_kindOf 19 = .ok (.istore_n 3, 1) := by decide +kernel
theorem dX0_kindOf_20 : decode cX0_kindOf 20 = .ok (.iconst 0, 1) := by decide +kernel
theorem dX0_kindOf_21 : decode cX0_kindOf 21 = .ok (.istore 4, 2) := by decide +kernel
theorem dX0_kindOf_23 : decode cX0_kindOf 23 = .ok (.iload 4, 2) := by decide +kernel
theorem dX0_kindOf_25 : decode cX0_kindOf 25 = .ok (.iload_n 2, 1) := by decide +kernel
theorem dX0_kindOf_26 : decode cX0_kindOf 26 = .ok (.if_icmp .ge 41, 3) := by decide +kernel
theorem dX0_kindOf_29 : decode cX0_kindOf 29 = .ok (.aload_n 0, 1) := by decide +kernel
theorem dX0_kindOf_30 : decode cX0_kindOf 30 = .ok (.getfield 11, 3) := by decide +kernel
theorem dX0_kindOf_33 : decode cX0_kindOf 33 = .ok (.iload_n 3, 1) := by decide +kernel
theorem dX0_kindOf_34 : decode cX0_kindOf 34 = .ok (.iaload, 1) := by decide +kernel
theorem dX0_kindOf_35 : decode cX0_kindOf 35 = .ok (.ifCond .eq 32, 3) := by decide +kernel
theorem dX0_kindOf_38 : decode cX0_kindOf 38 = .ok (.aload_n 0, 1) := by decide +kernel
theorem dX0_kindOf_39 : decode cX0_kindOf 39 = .ok (.getfield 19, 3) := by decide +kernel
theorem dX0_kindOf_42 : decode cX0_kindOf 42 = .ok (.aload_n 0, 1) := by decide +kernel
theorem dX0_kindOf_43 : decode cX0_kindOf 43 = .ok (.getfield 11, 3) := by decide +kernel
theorem dX0_kindOf_46 : decode cX0_kindOf 46 = .ok (.iload_n 3, 1) := by decide +kernel
theorem dX0_kindOf_47 : decode cX0_kindOf 47 = .ok (.iaload, 1) := by decide +kernel
theorem dX0_kindOf_48 : decode cX0_kindOf 48 = .ok (.iconst 1, 1) := by decide +kernel
theorem dX0_kindOf_49 : decode cX0_kindOf 49 = .ok (.isub, 1) := by decide +kernel
theorem dX0_kindOf_50 : decode cX0_kindOf 50 = .ok (.iaload, 1) := by decide +kernel
theorem dX0_kindOf_51 : decode cX0_kindOf 51 = .ok (.iload_n 1, 1) := by decide +kernel
theorem dX0_kindOf_52 : decode cX0_kindOf 52 = .ok (.if_icmp .eq 15, 3) := by decide +kernel
theorem dX0_kindOf_55 : decode cX0_kindOf 55 = .ok (.iload_n 3, 1) := by decide +kernel
theorem dX0_kindOf_56 : decode cX0_kindOf 56 = .ok (.iconst 1, 1) := by decide +kernel
theorem dX0_kindOf_57 : decode cX0_kindOf 57 = .ok (.iadd, 1) := by decide +kernel
theorem dX0_kindOf_58 : decode cX0_kindOf 58 = .ok (.iload_n 2, 1) := by decide +kernel
theorem dX0_kindOf_59 : decode cX0_kindOf 59 = .ok (.irem, 1) := by decide +kernel
theorem dX0_kindOf_60 : decode cX0_kindOf 60 = .ok (.istore_n 3, 1) := by decide +kernel
theorem dX0_kindOf_61 : decode cX0_kindOf 61 = .ok (.iinc 4 1, 3) := by decide +kernel
theorem dX0_kindOf_64 : decode cX0_kindOf 64 = .ok (.goto (-41), 3) := by decide +kernel
theorem dX0_kindOf_67 : decode cX0_kindOf 67 = .ok (.aload_n 0, 1) := by decide +kernel
theorem dX0_kindOf_68 : decode cX0_kindOf 68 = .ok (.getfield 11, 3) := by decide +kernel
theorem dX0_kindOf_71 : decode cX0_kindOf 71 = .ok (.iload_n 3, 1) := by decide +kernel
theorem dX0_kindOf_72 : decode cX0_kindOf 72 = .ok (.iaload, 1) := by decide +kernel
theorem dX0_kindOf_73 : decode cX0_kindOf 73 = .ok (.ifCond .ne 43, 3) := by decide +kernel
theorem dX0_kindOf_76 : decode cX0_kindOf 76 = .ok (.aload_n 0, 1) := by decide +kernel
theorem dX0_kindOf_77 : decode cX0_kindOf 77 = .ok (.getfield 19, 3) := by decide +kernel
theorem dX0_kindOf_80 : decode cX0_kindOf 80 = .ok (.aload_n 0, 1) := by decide +kernel
theorem dX0_kindOf_81 : decode cX0_kindOf 81 = .ok (.getfield 25, 3) := by decide +kernel
theorem dX0_kindOf_84 : decode cX0_kindOf 84 = .ok (.iload_n 1, 1) := by decide +kernel
theorem dX0_kindOf_85 : decode cX0_kindOf 85 = .ok (.iastore, 1) := by decide +kernel
theorem dX0_kindOf_86 : decode cX0_kindOf 86 = .ok (.aload_n 0, 1) := by decide +kernel
theorem dX0_kindOf_87 : decode cX0_kindOf 87 = .ok (.getfield 22, 3) := by decide +kernel
theorem dX0_kindOf_90 : decode cX0_kindOf 90 = .ok (.aload_n 0, 1) := by decide +kernel
theorem dX0_kindOf_91 : decode cX0_kindOf 91 = .ok (.getfield 25, 3) := by decide +kernel
theorem dX0_kindOf_94 : decode cX0_kindOf 94 = .ok (.iconst 0, 1) := by decide +kernel
theorem dX0_kindOf_95 : decode cX0_kindOf 95 = .ok (.iastore, 1) := by decide +kernel
theorem dX0_kindOf_96 : decode cX0_kindOf 96 = .ok (.aload_n 0, 1) := by decide +kernel
theorem dX0_kindOf_97 : decode cX0_kindOf 97 = .ok (.dup, 1) := by decide +kernel
theorem dX0_kindOf_98 : decode cX0_kindOf 98 = .ok (.getfield 25, 3) := by decide +kernel
theorem dX0_kindOf_101 : decode cX0_kindOf 101 = .ok (.iconst 1, 1) := by decide +kernel
theorem dX0_kindOf_102 : decode cX0_kindOf 102 = .ok (.iadd, 1) := by decide +kernel
theorem dX0_kindOf_103 : decode cX0_kindOf 103 = .ok (.putfield 25, 3) := by decide +kernel
theorem dX0_kindOf_106 : decode cX0_kindOf 106 = .ok (.aload_n 0, 1) := by decide +kernel
theorem dX0_kindOf_107 : decode cX0_kindOf 107 = .ok (.getfield 11, 3) := by decide +kernel
theorem dX0_kindOf_110 : decode cX0_kindOf 110 = .ok (.iload_n 3, 1) := by decide +kernel
theorem dX0_kindOf_111 : decode cX0_kindOf 111 = .ok (.aload_n 0, 1) := by decide +kernel
theorem dX0_kindOf_112 : decode cX0_kindOf 112 = .ok (.getfield 25, 3) := by decide +kernel
theorem dX0_kindOf_115 : decode cX0_kindOf 115 = .ok (.iastore, 1) := by decide +kernel
theorem dX0_kindOf_116 : decode cX0_kindOf 116 = .ok (.aload_n 0, 1) := by decide +kernel
theorem dX0_kindOf_117 : decode cX0_kindOf 117 = .ok (.getfield 11, 3) := by decide +kernel
theorem dX0_kindOf_120 : decode cX0_kindOf 120 = .ok (.iload_n 3, 1) := by decide +kernel
theorem dX0_kindOf_121 : decode cX0_kindOf 121 = .ok (.iaload, 1) := by decide +kernel
theorem dX0_kindOf_122 : decode cX0_kindOf 122 = .ok (.iconst 1, 1) := by decide +kernel
theorem dX0_kindOf_123 : decode cX0_kindOf 123 = .ok (.isub, 1) := by decide +kernel
theorem dX0_kindOf_124 : decode cX0_kindOf 124 = .ok (.ireturn, 1) := by decide +kernel
theorem dX0_chooseFavourites_0 : decode cX0_chooseFavourites 0 = .ok (.iconst 0, 1) := by decide +kernel
theorem dX0_chooseFavourites_1 : decode cX0_chooseFavourites 1 = .ok (.istore_n 3, 1) := by decide +kernel
theorem dX0_chooseFavourites_2 : decode cX0_chooseFavourites 2 = .ok (.aload_n 0, 1) := by decide +kernel
theorem dX0_chooseFavourites_3 : decode cX0_chooseFavourites 3 = .ok (.invokevirtual 55, 3) := by decide +kernel
theorem dX0_chooseFavourites_6 : decode cX0_chooseFavourites 6 = .ok (.istore 4, 2) := by decide +kernel
theorem dX0_chooseFavourites_8 : decode cX0_chooseFavourites 8 = .ok (.iload_n 3, 1) := by decide +kernel
theorem dX0_chooseFavourites_9 : decode cX0_chooseFavourites 9 = .ok (.iload_n 1, 1) := by decide +kernel
theorem dX0_chooseFavourites_10 : decode cX0_chooseFavourites 10 = .ok (.if_icmp .ge 40, 3) := by decide +kernel
theorem dX0_chooseFavourites_13 : decode cX0_chooseFavourites 13 = .ok (.iload 4, 2) := by decide +kernel
theorem dX0_chooseFavourites_15 : decode cX0_chooseFavourites 15 = .ok (.iconst (-1), 1) := by decide +kernel
theorem dX0_chooseFavourites_16 : decode cX0_chooseFavourites 16 = .ok (.if_icmp .eq 34, 3) := by decide +kernel
theorem dX0_chooseFavourites_19 : decode cX0_chooseFavourites 19 = .ok (.iinc 3 1, 3) := by decide +kernel
theorem dX0_chooseFavourites_22 : decode cX0_chooseFavourites 22 = .ok (.aload_n 2, 1) := by decide +kernel
theorem dX0_chooseFavourites_23 : decode cX0_chooseFavourites 23 = .ok (.iload_n 3, 1) := by decide +kernel
theorem dX0_chooseFavourites_24 : decode cX0_chooseFavourites 24 = .ok (.aload_n 0, 1) := by decide +kernel
theorem dX0_chooseFavourites_25 : decode cX0_chooseFavourites 25 = .ok (.getfield 19, 3) := by decide +kernel
theorem dX0_chooseFavourites_28 : decode cX0_chooseFavourites 28 = .ok (.iload 4, 2) := by decide +kernel
theorem dX0_chooseFavourites_30 : decode cX0_chooseFavourites 30 = .ok (.iaload, 1) := by decide +kernel
theorem dX0_chooseFavourites_31 : decode cX0_chooseFavourites 31 = .ok (.iastore, 1) := by decide +kernel
theorem dX0_chooseFavourites_32 : decode cX0_chooseFavourites 32 = .ok (.aload_n 0, 1) := by decide +kernel
theorem dX0_chooseFavourites_33 : decode cX0_chooseFavourites 33 = .ok (.getfield 22, 3) := by decide +kernel
theorem dX0_chooseFavourites_36 : decode cX0_chooseFavourites 36 = .ok (.iload 4, 2) := by decide +kernel
theorem dX0_chooseFavourites_38 : decode cX0_chooseFavourites 38 = .ok (.iload_n 3, 1) := by decide +kernel
theorem dX0_chooseFavourites_39 : decode cX0_chooseFavourites 39 = .ok (.ineg, 1) := by decide +kernel
theorem dX0_chooseFavourites_40 : decode cX0_chooseFavourites 40 = .ok (.iastore, 1) := by decide +kernel
theorem dX0_chooseFavourites_41 : decode cX0_chooseFavourites 41 = .ok (.aload_n 0, 1) := by decide +kernel
theorem dX0_chooseFavourites_42 : decode cX0_chooseFavourites 42 = .ok (.invokevirtual 55, 3) := by decide +kernel
theorem dX0_chooseFavourites_45 : decode cX0_chooseFavourites 45 = .ok (.istore 4, 2) := by decide +kernel
theorem dX0_chooseFavourites_47 : decode cX0_chooseFavourites 47 = .ok (.goto (-39), 3) := by decide +kernel
theorem dX0_chooseFavourites_50 : decode cX0_chooseFavourites 50 = .ok (.aload_n 2, 1) := by decide +kernel
theorem dX0_chooseFavourites_51 : decode cX0_chooseFavourites 51 = .ok (.iconst 0, 1) := by decide +kernel
theorem dX0_chooseFavourites_52 : decode cX0_chooseFavourites 52 = .ok (.iload_n 3, 1) := by decide +kernel
theorem dX0_chooseFavourites_53 : decode cX0_chooseFavourites 53 = .ok (.iastore, 1) := by decide +kernel
theorem dX0_chooseFavourites_54 : decode cX0_chooseFavourites 54 = .ok (.return_, 1) := by decide +kernel
theorem dX0_mostFrequent_0 : decode cX0_mostFrequent 0 = .ok (.iconst (-1), 1) := by decide +kernel
theorem dX0_mostFrequent_1 : decode cX0_mostFrequent 1 = .ok (.istore_n 1, 1) := by decide +kernel
theorem dX0_mostFrequent_2 : decode cX0_mostFrequent 2 = .ok (.iconst 1, 1) := by decide +kernel
theorem dX0_mostFrequent_3 : decode cX0_mostFrequent 3 = .ok (.istore_n 2, 1) := by decide +kernel
theorem dX0_mostFrequent_4 : decode cX0_mostFrequent 4 = .ok (.iconst 0, 1) := by decide +kernel
theorem dX0_mostFrequent_5 : decode cX0_mostFrequent 5 = .ok (.istore_n 3, 1) := by decide +kernel
theorem dX0_mostFrequent_6 : decode cX0_mostFrequent 6 = .ok (.iload_n 3, 1) := by decide +kernel
theorem dX0_mostFrequent_7 : decode cX0_mostFrequent 7 = .ok (.aload_n 0, 1) := by decide +kernel
theorem dX0_mostFrequent_8 : decode cX0_mostFrequent 8 = .ok (.getfield 25, 3) := by decide +kernel
theorem dX0_mostFrequent_11 : decode cX0_mostFrequent 11 = .ok (.if_icmp .ge 28, 3) := by decide +kernel
theorem dX0_mostFrequent_14 : decode cX0_mostFrequent 14 = .ok (.aload_n 0, 1) := by decide +kernel
theorem dX0_mostFrequent_15 : decode cX0_mostFrequent 15 = .ok (.getfield 22, 3) := by decide +kernel
theorem dX0_mostFrequent_18 : decode cX0_mostFrequent 18 = .ok (.iload_n 3, 1) := by decide +kernel
theorem dX0_mostFrequent_19 : decode cX0_mostFrequent 19 = .ok (.iaload, 1) := by decide +kernel
theorem dX0_mostFrequent_20 : decode cX0_mostFrequent 20 = .ok (.iload_n 2, 1) := by decide +kernel
theorem dX0_mostFrequent_21 : decode cX0_mostFrequent 21 = .ok (.if_icmp .le 12, 3) := by decide +kernel
theorem dX0_mostFrequent_24 : decode cX0_mostFrequent 24 = .ok (.iload_n 3, 1) := by decide +kernel
theorem dX0_mostFrequent_25 : decode cX0_mostFrequent 25 = .ok (.istore_n 1, 1) := by decide +kernel
theorem dX0_mostFrequent_26 : decode cX0_mostFrequent 26 = .ok (.aload_n 0, 1) := by decide +kernel
theorem dX0_mostFrequent_27 : decode cX0_mostFrequent 27 = .ok (.getfield 22, 3) := by decide +kernel
theorem dX0_mostFrequent_30 : decode cX0_mostFrequent 30 = .ok (.iload_n 3, 1) := by decide +kernel
theorem dX0_mostFrequent_31 : decode cX0_mostFrequent 31 = .ok (.iaload, 1) := by decide +kernel
theorem dX0_mostFrequent_32 : decode cX0_mostFrequent 32 = .ok (.istore_n 2, 1) := by decide +kernel
theorem dX0_mostFrequent_33 : decode cX0_mostFrequent 33 = .ok (.iinc 3 1, 3) := by decide +kernel
theorem dX0_mostFrequent_36 : decode cX0_mostFrequent 36 = .ok (.goto (-30), 3) := by decide +kernel
theorem dX0_mostFrequent_39 : decode cX0_mostFrequent 39 = .ok (.iload_n 1, 1) := by decide +kernel
theorem dX0_mostFrequent_40 : decode cX0_mostFrequent 40 = .ok (.ireturn, 1) := by decide +kernel
theorem dX1_init_0 : decode cX1_init 0 = .ok (.aload_n 0, 1) := by decide +kernel
theorem dX1_init_1 : decode cX1_init 1 = .ok (.iconst 0, 1) := by decide +kernel
theorem dX1_init_2 : decode cX1_init 2 = .ok (.invokespecial 3, 3) := by decide +kernel
theorem dX1_init_5 : decode cX1_init 5 = .ok (.aload_n 0, 1) := by decide +kernel
theorem dX1_init_6 : decode cX1_init 6 = .ok (.iload_n 1, 1) := by decide +kernel
theorem dX1_init_7 : decode cX1_init 7 = .ok (.putfield 9, 3) := by decide +kernel
theorem dX1_init_10 : decode cX1_init 10 = .ok (.aload_n 0, 1) := by decide +kernel
theorem dX1_init_11 : decode cX1_init 11 = .ok (.iload_n 2, 1) := by decide +kernel
theorem dX1_init_12 : decode cX1_init 12 = .ok (.putfield 15, 3) := by decide +kernel
theorem dX1_init_15 : decode cX1_init 15 = .ok (.aload_n 0, 1) := by decide +kernel
theorem dX1_init_16 : decode cX1_init 16 = .ok (.iload_n 3, 1) := by decide +kernel
theorem dX1_init_17 : decode cX1_init 17 = .ok (.putfield 18, 3) := by decide +kernel
theorem dX1_init_20 : decode cX1_init 20 = .ok (.aload_n 0, 1) := by decide +kernel
theorem dX1_init_21 : decode cX1_init 21 = .ok (.iload 4, 2) := by decide +kernel
theorem dX1_init_23 : decode cX1_init 23 = .ok (.putfield 21, 3) := by decide +kernel
theorem dX1_init_26 : decode cX1_init 26 = .ok (.aload_n 0, 1) := by decide +kernel
theorem dX1_init_27 : decode cX1_init 27 = .ok (.sipush 256, 3) := by decide +kernel
theorem dX1_init_30 : decode cX1_init 30 = .ok (.iload_n 2, 1) := by decide +kernel
theorem dX1_init_31 : decode cX1_init 31 = .ok (.isub, 1) := by decide +kernel
theorem dX1_init_32 : decode cX1_init 32 = .ok (.putfield 24, 3) := by decide +kernel
theorem dX1_init_35 : decode cX1_init 35 = .ok (.return_, 1) := by decide +kernel
theorem dX1_trait_0 : decode cX1_trait 0 = .ok (.iload_n 1, 1) := by decide +kernel
theorem dX1_trait_1 : decode cX1_trait 1 = .ok (.tableswitch 51 0 3 #[31, 36, 41, 46], 31) := by decide +kernel
theorem dX1_trait_32 : decode cX1_trait 32 = .ok (.aload_n 0, 1) := by decide +kernel
theorem dX1_trait_33 : decode cX1_trait 33 = .ok (.getfield 9, 3) := by decide +kernel
theorem dX1_trait_36 : decode cX1_trait 36 = .ok (.ireturn, 1) := by decide +kernel
theorem dX1_trait_37 : decode cX1_trait 37 = .ok (.aload_n 0, 1) := by decide +kernel
theorem dX1_trait_38 : decode cX1_trait 38 = .ok (.getfield 15, 3) := by decide +kernel
theorem dX1_trait_41 : decode cX1_trait 41 = .ok (.ireturn, 1) := by decide +kernel
theorem dX1_trait_42 : decode cX1_trait 42 = .ok (.aload_n 0, 1) := by decide +kernel
theorem dX1_trait_43 : decode cX1_trait 43 = .ok (.getfield 18, 3) := by decide +kernel
theorem dX1_trait_46 : decode cX1_trait 46 = .ok (.ireturn, 1) := by decide +kernel
theorem dX1_trait_47 : decode cX1_trait 47 = .ok (.aload_n 0, 1) := by decide +kernel
theorem dX1_trait_48 : decode cX1_trait 48 = .ok (.getfield 21, 3) := by decide +kernel
theorem dX1_trait_51 : decode cX1_trait 51 = .ok (.ireturn, 1) := by decide +kernel
theorem dX1_trait_52 : decode cX1_trait 52 = .ok (.iconst (-1), 1) := by decide +kernel
theorem dX1_trait_53 : decode cX1_trait 53 = .ok (.ireturn, 1) := by decide +kernel
theorem dX1_write_0 : decode cX1_write 0 = .ok (.iconst 0, 1) := by decide +kernel
theorem dX1_write_1 : decode cX1_write 1 = .ok (.istore 5, 2) := by decide +kernel
theorem dX1_write_3 : decode cX1_write 3 = .ok (.iload_n 3, 1) := by decide +kernel
theorem dX1_write_4 : decode cX1_write 4 = .ok (.istore 6, 2) := by decide +kernel
theorem dX1_write_6 : decode cX1_write 6 = .ok (.iload 6, 2) := by decide +kernel
theorem dX1_write_8 : decode cX1_write 8 = .ok (.iload_n 3, 1) := by decide +kernel
theorem dX1_write_9 : decode cX1_write 9 = .ok (.iload 4, 2) := by decide +kernel
theorem dX1_write_11 : decode cX1_write 11 = .ok (.iadd, 1) := by decide +kernel
theorem dX1_write_12 : decode cX1_write 12 = .ok (.if_icmp .ge 38, 3) := by decide +kernel
theorem dX1_write_15 : decode cX1_write 15 = .ok (.aload_n 0, 1) := by decide +kernel
theorem dX1_write_16 : decode cX1_write 16 = .ok (.aload_n 0, 1) := by decide +kernel
theorem dX1_write_17 : decode cX1_write 17 = .ok (.aload_n 2, 1) := by decide +kernel
theorem dX1_write_18 : decode cX1_write 18 = .ok (.iload 6, 2) := by decide +kernel
theorem dX1_write_20 : decode cX1_write 20 = .ok (.iaload, 1) := by decide +kernel
theorem dX1_write_21 : decode cX1_write 21 = .ok (.iload 5, 2) := by decide +kernel
theorem dX1_write_23 : decode cX1_write 23 = .ok (.invokevirtual 27, 3) := by decide +kernel
theorem dX1_write_26 : decode cX1_write 26 = .ok (.aload_n 1, 1) := by decide +kernel
theorem dX1_write_27 : decode cX1_write 27 = .ok (.getfield 31, 3) := by decide +kernel
theorem dX1_write_30 : decode cX1_write 30 = .ok (.invokevirtual 37, 3) := by decide +kernel
theorem dX1_write_33 : decode cX1_write 33 = .ok (.ifCond .ne 5, 3) := by decide +kernel
theorem dX1_write_36 : decode cX1_write 36 = .ok (.iconst 0, 1) := by decide +kernel
theorem dX1_write_37 : decode cX1_write 37 = .ok (.ireturn, 1) := by decide +kernel
theorem dX1_write_38 : decode cX1_write 38 = .ok (.aload_n 2, 1) := by decide +kernel
theorem dX1_write_39 : decode cX1_write 39 = .ok (.iload 6, 2) := by decide +kernel
theorem dX1_write_41 : decode cX1_write 41 = .ok (.iaload, 1) := by decide +kernel
theorem dX1_write_42 : decode cX1_write 42 = .ok (.istore 5, 2) := by decide +kernel
theorem dX1_write_44 : decode cX1_write 44 = .ok (.iinc 6 1, 3) := by decide +kernel
theorem dX1_write_47 : decode cX1_write 47 = .ok (.goto (-41), 3) := by decide +kernel
theorem dX1_write_50 : decode cX1_write 50 = .ok (.iconst 1, 1) := by decide +kernel
theorem dX1_write_51 : decode cX1_write 51 = .ok (.ireturn, 1) := by decide +kernel
theorem dX1_read_0 : decode cX1_read 0 = .ok (.aload_n 1, 1) := by decide +kernel
theorem dX1_read_1 : decode cX1_read 1 = .ok (.getfield 31, 3) := by decide +kernel
theorem dX1_read_4 : decode cX1_read 4 = .ok (.astore 5, 2) := by decide +kernel
theorem dX1_read_6 : decode cX1_read 6 = .ok (.iconst 0, 1) := by decide +kernel
theorem dX1_read_7 : decode cX1_read 7 = .ok (.istore 6, 2) := by decide +kernel
theorem dX1_read_9 : decode cX1_read 9 = .ok (.iload_n 3, 1) := by decide +kernel
theorem dX1_read_10 : decode cX1_read 10 = .ok (.istore 7, 2) := by decide +kernel
theorem dX1_read_12 : decode cX1_read 12 = .ok (.iload 7, 2) := by decide +kernel
theorem dX1_read_14 : decode cX1_read 14 = .ok (.iload_n 3, 1) := by decide +kernel
theorem dX1_read_15 : decode cX1_read 15 = .ok (.iload 4, 2) := by decide +kernel
theorem dX1_read_17 : decode cX1_read 17 = .ok (.iadd, 1) := by decide +kernel
theorem dX1_read_18 : decode cX1_read 18 = .ok (.if_icmp .ge 98, 3) := by decide +kernel
theorem dX1_read_21 : decode cX1_read 21 = .ok (.aload 5, 2) := by decide +kernel
theorem dX1_read_23 : decode cX1_read 23 = .ok (.getfield 41, 3) := by decide +kernel
theorem dX1_read_26 : decode cX1_read 26 = .ok (.istore 8, 2) := by decide +kernel
theorem dX1_read_28 : decode cX1_read 28 = .ok (.aload_n 0, 1) := by decide +kernel
theorem dX1_read_29 : decode cX1_read 29 = .ok (.aload 5, 2) := by decide +kernel
theorem dX1_read_31 : decode cX1_read 31 = .ok (.invokevirtual 46, 3) := by decide +kernel
theorem dX1_read_34 : decode cX1_read 34 = .ok (.lstore 9, 2) := by decide +kernel
theorem dX1_read_36 : decode cX1_read 36 = .ok (.lload 9, 2) := by decide +kernel
theorem dX1_read_38 : decode cX1_read 38 = .ok (.ldc2_w 50, 3) := by decide +kernel
theorem dX1_read_41 : decode cX1_read 41 = .ok (.lcmp, 1) := by decide +kernel
theorem dX1_read_42 : decode cX1_read 42 = .ok (.ifCond .ne 12, 3) := by decide +kernel
theorem dX1_read_45 : decode cX1_read 45 = .ok (.aload 5, 2) := by decide +kernel
theorem dX1_read_47 : decode cX1_read 47 = .ok (.iconst 1, 1) := by decide +kernel
theorem dX1_read_48 : decode cX1_read 48 = .ok (.iload 8, 2) := by decide +kernel
theorem dX1_read_50 : decode cX1_read 50 = .ok (.invokevirtual 52, 3) := by decide +kernel
theorem dX1_read_53 : decode cX1_read 53 = .ok (.ireturn, 1) := by decide +kernel
theorem dX1_read_54 : decode cX1_read 54 = .ok (.aload_n 0, 1) := by decide +kernel
theorem dX1_read_55 : decode cX1_read 55 = .ok (.lload 9, 2) := by decide +kernel
theorem dX1_read_57 : decode cX1_read 57 = .ok (.invokevirtual 56, 3) := by decide +kernel
theorem dX1_read_60 : decode cX1_read 60 = .ok (.lstore 11, 2) := by decide +kernel
theorem dX1_read_62 : decode cX1_read 62 = .ok (.lload 11, 2) := by decide +kernel
theorem dX1_read_64 : decode cX1_read 64 = .ok (.ldc2_w 60, 3) := by decide +kernel
theorem dX1_read_67 : decode cX1_read 67 = .ok (.lcmp, 1) := by decide +kernel
theorem dX1_read_68 : decode cX1_read 68 = .ok (.ifCond .ne 12, 3) := by decide +kernel
theorem dX1_read_71 : decode cX1_read 71 = .ok (.aload 5, 2) := by decide +kernel
theorem dX1_read_73 : decode cX1_read 73 = .ok (.iconst 2, 1) := by decide +kernel
theorem dX1_read_74 : decode cX1_read 74 = .ok (.iload 8, 2) := by decide +kernel
theorem dX1_read_76 : decode cX1_read 76 = .ok (.invokevirtual 52, 3) := by decide +kernel
theorem dX1_read_79 : decode cX1_read 79 = .ok (.ireturn, 1) := by decide +kernel
theorem dX1_read_80 : decode cX1_read 80 = .ok (.aload_n 2, 1) := by decide +kernel
theorem dX1_read_81 : decode cX1_read 81 = .ok (.iload 7, 2) := by decide +kernel
theorem dX1_read_83 : decode cX1_read 83 = .ok (.aload_n 0, 1) := by decide +kernel
theorem dX1_read_84 : decode cX1_read 84 = .ok (.getfield 21, 3) := by decide +kernel
theorem dX1_read_87 : decode cX1_read 87 = .ok (.iconst 1, 1) := by decide +kernel
theorem dX1_read_88 : decode cX1_read 88 = .ok (.if_icmp .ne 12, 3) := by decide +kernel
theorem dX1_read_91 : decode cX1_read 91 = .ok (.iload 6, 2) := by decide +kernel
theorem dX1_read_93 : decode cX1_read 93 = .ok (.lload 11, 2) := by decide +kernel
theorem dX1_read_95 : decode cX1_read 95 = .ok (.l2i, 1) := by decide +kernel
theorem dX1_read_96 : decode cX1_read 96 = .ok (.iadd, 1) := by decide +kernel
theorem dX1_read_97 : decode cX1_read 97 = .ok (.goto 6, 3) := by decide +kernel
theorem dX1_read_100 : decode cX1_read 100 = .ok (.lload 11, 2) := by decide +kernel
theorem dX1_read_102 : decode cX1_read 102 = .ok (.l2i, 1) := by decide +kernel
theorem dX1_read_103 : decode cX1_read 103 = .ok (.iastore, 1) := by decide +kernel
theorem dX1_read_104 : decode cX1_read 104 = .ok (.aload_n 2, 1) := by decide +kernel
theorem dX1_read_105 : decode cX1_read 105 = .ok (.iload 7, 2) := by decide +kernel
theorem dX1_read_107 : decode cX1_read 107 = .ok (.iaload, 1) := by decide +kernel
theorem dX1_read_108 : decode cX1_read 108 = .ok (.istore 6, 2) := by decide +kernel
theorem dX1_read_110 : decode cX1_read 110 = .ok (.iinc 7 1, 3) := by decide +kernel
theorem dX1_read_113 : decode cX1_read 113 = .ok (.goto (-101), 3) := by decide +kernel
theorem dX1_read_116 : decode cX1_read 116 = .ok (.iconst 1, 1) := by decide +kernel
theorem dX1_read_117 : decode cX1_read 117 = .ok (.ireturn, 1) := by decide +kernel
theorem dX1_bytesOf_0 : decode cX1_bytesOf 0 = .ok (.aload_n 0, 1) := by decide +kernel
theorem dX1_bytesOf_1 : decode cX1_bytesOf 1 = .ok (.iload_n 1, 1) := by decide +kernel
theorem dX1_bytesOf_2 : decode cX1_bytesOf 2 = .ok (.iload_n 2, 1) := by decide +kernel
theorem dX1_bytesOf_3 : decode cX1_bytesOf 3 = .ok (.invokevirtual 27, 3) := by decide +kernel
theorem dX1_bytesOf_6 : decode cX1_bytesOf 6 = .ok (.lstore_n 3, 1) := by decide +kernel
theorem dX1_bytesOf_7 : decode cX1_bytesOf 7 = .ok (.lload_n 3, 1) := by decide +kernel
theorem dX1_bytesOf_8 : decode cX1_bytesOf 8 = .ok (.ldc2_w 50, 3) := by decide +kernel
theorem dX1_bytesOf_11 : decode cX1_bytesOf 11 = .ok (.lcmp, 1) := by decide +kernel
theorem dX1_bytesOf_12 : decode cX1_bytesOf 12 = .ok (.ifCond .ne 5, 3) := by decide +kernel
theorem dX1_bytesOf_15 : decode cX1_bytesOf 15 = .ok (.iconst (-1), 1) := by decide +kernel
theorem dX1_bytesOf_16 : decode cX1_bytesOf 16 = .ok (.ireturn, 1) := by decide +kernel
theorem dX1_bytesOf_17 : decode cX1_bytesOf 17 = .ok (.iconst 1, 1) := by decide +kernel
theorem dX1_bytesOf_18 : decode cX1_bytesOf 18 = .ok (.istore 5, 2) := by decide +kernel
theorem dX1_bytesOf_20 : decode cX1_bytesOf 20 = .ok (.iload 5, 2) := by decide +kernel
theorem dX1_bytesOf_22 : decode cX1_bytesOf 22 = .ok (.aload_n 0, 1) := by decide +kernel
theorem dX1_bytesOf_23 : decode cX1_bytesOf 23 = .ok (.getfield 9, 3) := by decide +kernel
theorem dX1_bytesOf_26 : decode cX1_bytesOf 26 = .ok (.if_icmp .ge 36, 3) := by decide +kernel
theorem dX1_bytesOf_29 : decode cX1_bytesOf 29 = .ok (.lload_n 3, 1) := by decide +kernel
theorem dX1_bytesOf_30 : decode cX1_bytesOf 30 = .ok (.aload_n 0, 1) := by decide +kernel
theorem dX1_bytesOf_31 : decode cX1_bytesOf 31 = .ok (.getfield 24, 3) := by decide +kernel
theorem dX1_bytesOf_34 : decode cX1_bytesOf 34 = .ok (.i2l, 1) := by decide +kernel
theorem dX1_bytesOf_35 : decode cX1_bytesOf 35 = .ok (.lcmp, 1) := by decide +kernel
theorem dX1_bytesOf_36 : decode cX1_bytesOf 36 = .ok (.ifCond .ge 6, 3) := by decide +kernel
theorem dX1_bytesOf_39 : decode cX1_bytesOf 39 = .ok (.iload 5, 2) := by decide +kernel
theorem dX1_bytesOf_41 : decode cX1_bytesOf 41 = .ok (.ireturn, 1) := by decide +kernel
theorem dX1_bytesOf_42 : decode cX1_bytesOf 42 = .ok (.lload_n 3, 1) := by decide +kernel
theorem dX1_bytesOf_43 : decode cX1_bytesOf 43 = .ok (.aload_n 0, 1) := by decide +kernel
theorem dX1_bytesOf_44 : decode cX1_bytesOf 44 = .ok (.getfield 24, 3) := by decide +kernel
theorem dX1_bytesOf_47 : decode cX1_bytesOf 47 = .ok (.i2l, 1) := by decide +kernel
theorem dX1_bytesOf_48 : decode cX1_bytesOf 48 = .ok (.lsub, 1) := by decide +kernel
theorem dX1_bytesOf_49 : decode cX1_bytesOf 49 = .ok (.aload_n 0, 1) := by decide +kernel
theorem dX1_bytesOf_50 : decode cX1_bytesOf 50 = .ok (.getfield 15, 3) := by decide +kernel
theorem dX1_bytesOf_53 : decode cX1_bytesOf 53 = .ok (.i2l, 1) := by decide +kernel
theorem dX1_bytesOf_54 : decode cX1_bytesOf 54 = .ok (.ldiv, 1) := by decide +kernel
theorem dX1_bytesOf_55 : decode cX1_bytesOf 55 = .ok (.lstore_n 3, 1) := by decide +kernel
theorem dX1_bytesOf_56 : decode cX1_bytesOf 56 = .ok (.iinc 5 1, 3) := by decide +kernel
theorem dX1_bytesOf_59 : decode cX1_bytesOf 59 = .ok (.goto (-39), 3) := by decide +kernel
theorem dX1_bytesOf_62 : decode cX1_bytesOf 62 = .ok (.lload_n 3, 1) := by decide +kernel
theorem dX1_bytesOf_63 : decode cX1_bytesOf 63 = .ok (.ldc2_w 62, 3) := by decide +kernel
theorem dX1_bytesOf_66 : decode cX1_bytesOf 66 = .ok (.lcmp, 1) := by decide +kernel
theorem dX1_bytesOf_67 : decode cX1_bytesOf 67 = .ok (.ifCond .ge 10, 3) := by decide +kernel
theorem dX1_bytesOf_70 : decode cX1_bytesOf 70 = .ok (.aload_n 0, 1) := by decide +kernel
theorem dX1_bytesOf_71 : decode cX1_bytesOf 71 = .ok (.getfield 9, 3) := by decide +kernel
theorem dX1_bytesOf_74 : decode cX1_bytesOf 74 = .ok (.goto 4, 3) := by decide +kernel
theorem dX1_bytesOf_77 : decode cX1_bytesOf 77 = .ok (.iconst (-1), 1) := by decide +kernel
theorem dX1_bytesOf_78 : decode cX1_bytesOf 78 = .ok (.ireturn, 1) := by decide +kernel
theorem dX1_writeCode_0 : decode cX1_writeCode 0 = .ok (.lload_n 1, 1) := by decide +kernel
theorem dX1_writeCode_1 : decode cX1_writeCode 1 = .ok (.ldc2_w 50, 3) := by decide +kernel
theorem dX1_writeCode_4 : decode cX1_writeCode 4 = .ok (.lcmp, 1) := by decide +kernel
theorem dX1_writeCode_5 : decode cX1_writeCode 5 = .ok (.ifCond .ne 5, 3) := by decide +kernel
theorem dX1_writeCode_8 : decode cX1_writeCode 8 = .ok (.iconst 0, 1) := by decide +kernel
theorem dX1_writeCode_9 : decode cX1_writeCode 9 = .ok (.ireturn, 1) := by decide +kernel
theorem dX1_writeCode_10 : decode cX1_writeCode 10 = .ok (.lload_n 1, 1) := by decide +kernel
theorem dX1_writeCode_11 : decode cX1_writeCode 11 = .ok (.lstore 4, 2) := by decide +kernel
theorem dX1_writeCode_13 : decode cX1_writeCode 13 = .ok (.iconst 1, 1) := by decide +kernel
theorem dX1_writeCode_14 : decode cX1_writeCode 14 = .ok (.istore 6, 2) := by decide +kernel
theorem dX1_writeCode_16 : decode cX1_writeCode 16 = .ok (.iload 6, 2) := by decide +kernel
theorem dX1_writeCode_18 : decode cX1_writeCode 18 = .ok (.aload_n 0, 1) := by decide +kernel
theorem dX1_writeCode_19 : decode cX1_writeCode 19 = .ok (.getfield 9, 3) := by decide +kernel
theorem dX1_writeCode_22 : decode cX1_writeCode 22 = .ok (.if_icmp .ge 69, 3) := by decide +kernel
theorem dX1_writeCode_25 : decode cX1_writeCode 25 = .ok (.lload 4, 2) := by decide +kernel
theorem dX1_writeCode_27 : decode cX1_writeCode 27 = .ok (.aload_n 0, 1) := by decide +kernel
theorem dX1_writeCode_28 : decode cX1_writeCode 28 = .ok (.getfield 24, 3) := by decide +kernel
theorem dX1_writeCode_31 : decode cX1_writeCode 31 = .ok (.i2l, 1) := by decide +kernel
theorem dX1_writeCode_32 : decode cX1_writeCode 32 = .ok (.lcmp, 1) := by decide +kernel
theorem dX1_writeCode_33 : decode cX1_writeCode 33 = .ok (.ifCond .ge 12, 3) := by decide +kernel
theorem dX1_writeCode_36 : decode cX1_writeCode 36 = .ok (.aload_n 3, 1) := by decide +kernel
theorem dX1_writeCode_37 : decode cX1_writeCode 37 = .ok (.lload 4, 2) := by decide +kernel
theorem dX1_writeCode_39 : decode cX1_writeCode 39 = .ok (.l2i, 1) := by decide +kernel
theorem dX1_writeCode_40 : decode cX1_writeCode 40 = .ok (.invokevirtual 64, 3) := by decide +kernel
theorem dX1_writeCode_43 : decode cX1_writeCode 43 = .ok (.iconst 1, 1) := by decide +kernel
theorem dX1_writeCode_44 : decode cX1_writeCode 44 = .ok (.ireturn, 1) := by decide +kernel
theorem dX1_writeCode_45 : decode cX1_writeCode 45 = .ok (.aload_n 3, 1) := by decide +kernel
theorem dX1_writeCode_46 : decode cX1_writeCode 46 = .ok (.aload_n 0, 1) := by decide +kernel
theorem dX1_writeCode_47 : decode cX1_writeCode 47 = .ok (.getfield 24, 3) := by decide +kernel
theorem dX1_writeCode_50 : decode cX1_writeCode 50 = .ok (.lload 4, 2) := by decide +kernel
theorem dX1_writeCode_52 : decode cX1_writeCode 52 = .ok (.aload_n 0, 1) := by decide +kernel
theorem dX1_writeCode_53 : decode cX1_writeCode 53 = .ok (.getfield 24, 3) := by decide +kernel
theorem dX1_writeCode_56 : decode cX1_writeCode 56 = .ok (.i2l, 1) := by decide +kernel
theorem dX1_writeCode_57 : decode cX1_writeCode 57 = .ok (.lsub, 1) := by decide +kernel
theorem dX1_writeCode_58 : decode cX1_writeCode 58 = .ok (.aload_n 0, 1) := by decide +kernel
theorem dX1_writeCode_59 : decode cX1_writeCode 59 = .ok (.getfield 15, 3) := by decide +kernel
theorem dX1_writeCode_62 : decode cX1_writeCode 62 = .ok (.i2l, 1) := by decide +kernel
theorem dX1_writeCode_63 : decode cX1_writeCode 63 = .ok (.lrem, 1) := by decide +kernel
theorem dX1_writeCode_64 : decode cX1_writeCode 64 = .ok (.l2i, 1) := by decide +kernel
theorem dX1_writeCode_65 : decode cX1_writeCode 65 = .ok (.iadd, 1) := by decide +kernel
theorem dX1_writeCode_66 : decode cX1_writeCode 66 = .ok (.invokevirtual 64, 3) := by decide +kernel
theorem dX1_writeCode_69 : decode cX1_writeCode 69 = .ok (.lload 4, 2) := by decide +kernel
theorem dX1_writeCode_71 : decode cX1_writeCode 71 = .ok (.aload_n 0, 1) := by decide +kernel
theorem dX1_writeCode_72 : decode cX1_writeCode 72 = .ok (.getfield 24, 3) := by decide +kernel
theorem dX1_writeCode_75 : decode cX1_writeCode 75 = .ok (.i2l, 1) := by decide +kernel
theorem dX1_writeCode_76 : decode cX1_writeCode 76 = .ok (.lsub, 1) := by decide +kernel
theorem dX1_writeCode_77 : decode cX1_writeCode 77 = .ok (.aload_n 0, 1) := by decide +kernel
theorem dX1_writeCode_78 : decode cX1_writeCode 78 = .ok (.getfield 15, 3) := by decide +kernel
theorem dX1_writeCode_81 : decode cX1_writeCode 81 = .ok (.i2l, 1) := by decide +kernel
theorem dX1_writeCode_82 : decode cX1_writeCode 82 = .ok (.ldiv, 1) := by decide +kernel
theorem dX1_writeCode_83 : decode cX1_writeCode 83 = .ok (.lstore 4, 2) := by decide +kernel
theorem dX1_writeCode_85 : decode cX1_writeCode 85 = .ok (.iinc 6 1, 3) := by decide +kernel
theorem dX1_writeCode_88 : decode cX1_writeCode 88 = .ok (.goto (-72), 3) := by decide +kernel
theorem dX1_writeCode_91 : decode cX1_writeCode 91 = .ok (.aload_n 3, 1) := by decide +kernel
theorem dX1_writeCode_92 : decode cX1_writeCode 92 = .ok (.lload 4, 2) := by decide +kernel
theorem dX1_writeCode_94 : decode cX1_writeCode 94 = .ok (.l2i, 1) := by decide +kernel
theorem dX1_writeCode_95 : decode cX1_writeCode 95 = .ok (.invokevirtual 64, 3) := by decide +kernel
theorem dX1_writeCode_98 : decode cX1_writeCode 98 = .ok (.lload 4, 2) := by decide +kernel
theorem dX1_writeCode_100 : decode cX1_writeCode 100 = .ok (.ldc2_w 62, 3) := by decide +kernel
theorem dX1_writeCode_103 : decode cX1_writeCode 103 = .ok (.lcmp, 1) := by decide +kernel
theorem dX1_writeCode_104 : decode cX1_writeCode 104 = .ok (.ifCond .ge 7, 3) := by decide +kernel
theorem dX1_writeCode_107 : decode cX1_writeCode 107 = .ok (.iconst 1, 1) := by decide +kernel
theorem dX1_writeCode_108 : decode cX1_writeCode 108 = .ok (.goto 4, 3) := by decide +kernel
theorem dX1_writeCode_111 : decode cX1_writeCode 111 = .ok (.iconst 0, 1) := by decide +kernel
theorem dX1_writeCode_112 : decode cX1_writeCode 112 = .ok (.ireturn, 1) := by decide +kernel
theorem dX1_readCode_0 : decode cX1_readCode 0 = .ok (.lconst 0, 1) := by decide +kernel
theorem dX1_readCode_1 : decode cX1_readCode 1 = .ok (.lstore_n 2, 1) := by decide +kernel
theorem dX1_readCode_2 : decode cX1_readCode 2 = .ok (.lconst 1, 1) := by decide +kernel
theorem dX1_readCode_3 : decode cX1_readCode 3 = .ok (.lstore 4, 2) := by decide +kernel
theorem dX1_readCode_5 : decode cX1_readCode 5 = .ok (.iconst 0, 1) := by decide +kernel
theorem dX1_readCode_6 : decode cX1_readCode 6 = .ok (.istore 6, 2) := by decide +kernel
theorem dX1_readCode_8 : decode cX1_readCode 8 = .ok (.iload 6, 2) := by decide +kernel
theorem dX1_readCode_10 : decode cX1_readCode 10 = .ok (.aload_n 0, 1) := by decide +kernel
theorem dX1_readCode_11 : decode cX1_readCode 11 = .ok (.getfield 9, 3) := by decide +kernel
theorem dX1_readCode_14 : decode cX1_readCode 14 = .ok (.if_icmp .ge 55, 3) := by decide +kernel
theorem dX1_readCode_17 : decode cX1_readCode 17 = .ok (.aload_n 1, 1) := by decide +kernel
theorem dX1_readCode_18 : decode cX1_readCode 18 = .ok (.invokevirtual 67, 3) := by decide +kernel
theorem dX1_readCode_21 : decode cX1_readCode 21 = .ok (.istore 7, 2) := by decide +kernel
theorem dX1_readCode_23 : decode cX1_readCode 23 = .ok (.iload 7, 2) := by decide +kernel
theorem dX1_readCode_25 : decode cX1_readCode 25 = .ok (.iconst (-1), 1) := by decide +kernel
theorem dX1_readCode_26 : decode cX1_readCode 26 = .ok (.if_icmp .ne 7, 3) := by decide +kernel
theorem dX1_readCode_29 : decode cX1_readCode 29 = .ok (.ldc2_w 50, 3) := by decide +kernel
theorem dX1_readCode_32 : decode cX1_readCode 32 = .ok (.lreturn, 1) := by decide +kernel
theorem dX1_readCode_33 : decode cX1_readCode 33 = .ok (.lload_n 2, 1) := by decide +kernel
theorem dX1_readCode_34 : decode cX1_readCode 34 = .ok (.iload 7, 2) := by decide +kernel
theorem dX1_readCode_36 : decode cX1_readCode 36 = .ok (.i2l, 1) := by decide +kernel
theorem dX1_readCode_37 : decode cX1_readCode 37 = .ok (.lload 4, 2) := by decide +kernel
theorem dX1_readCode_39 : decode cX1_readCode 39 = .ok (.lmul, 1) := by decide +kernel
theorem dX1_readCode_40 : decode cX1_readCode 40 = .ok (.ladd, 1) := by decide +kernel
theorem dX1_readCode_41 : decode cX1_readCode 41 = .ok (.lstore_n 2, 1) := by decide +kernel
theorem dX1_readCode_42 : decode cX1_readCode 42 = .ok (.iload 7, 2) := by decide +kernel
theorem dX1_readCode_44 : decode cX1_readCode 44 = .ok (.aload_n 0, 1) := by decide +kernel
theorem dX1_readCode_45 : decode cX1_readCode 45 = .ok (.getfield 24, 3) := by decide +kernel
theorem dX1_readCode_48 : decode cX1_readCode 48 = .ok (.if_icmp .ge 5, 3) := by decide +kernel
theorem dX1_readCode_51 : decode cX1_readCode 51 = .ok (.lload_n 2, 1) := by decide +kernel
theorem dX1_readCode_52 : decode cX1_readCode 52 = .ok (.lreturn, 1) := by decide +kernel
theorem dX1_readCode_53 : decode cX1_readCode 53 = .ok (.lload 4, 2) := by decide +kernel
theorem dX1_readCode_55 : decode cX1_readCode 55 = .ok (.aload_n 0, 1) := by decide +kernel
theorem dX1_readCode_56 : decode cX1_readCode 56 = .ok (.getfield 15, 3) := by decide +kernel
theorem dX1_readCode_59 : decode cX1_readCode 59 = .ok (.i2l, 1) := by decide +kernel
theorem dX1_readCode_60 : decode cX1_readCode 60 = .ok (.lmul, 1) := by decide +kernel
theorem dX1_readCode_61 : decode cX1_readCode 61 = .ok (.lstore 4, 2) := by decide +kernel
theorem dX1_readCode_63 : decode cX1_readCode 63 = .ok (.iinc 6 1, 3) := by decide +kernel
theorem dX1_readCode_66 : decode cX1_readCode 66 = .ok (.goto (-58), 3) := by decide +kernel
theorem dX1_readCode_69 : decode cX1_readCode 69 = .ok (.lload_n 2, 1) := by decide +kernel
theorem dX1_readCode_70 : decode cX1_readCode 70 = .ok (.lreturn, 1) := by decide +kernel
theorem dX1_codeOf_0 : decode cX1_codeOf 0 = .ok (.aload_n 0, 1) := by decide +kernel
theorem dX1_codeOf_1 : decode cX1_codeOf 1 = .ok (.getfield 21, 3) := by decide +kernel
theorem dX1_codeOf_4 : decode cX1_codeOf 4 = .ok (.iconst 1, 1) := by decide +kernel
theorem dX1_codeOf_5 : decode cX1_codeOf 5 = .ok (.if_icmp .ne 10, 3) := by decide +kernel
theorem dX1_codeOf_8 : decode cX1_codeOf 8 = .ok (.iload_n 1, 1) := by decide +kernel
theorem dX1_codeOf_9 : decode cX1_codeOf 9 = .ok (.iload_n 2, 1) := by decide +kernel
theorem dX1_codeOf_10 : decode cX1_codeOf 10 = .ok (.isub, 1) := by decide +kernel
theorem dX1_codeOf_11 : decode cX1_codeOf 11 = .ok (.i2l, 1) := by decide +kernel
theorem dX1_codeOf_12 : decode cX1_codeOf 12 = .ok (.goto 5, 3) := by decide +kernel
theorem dX1_codeOf_15 : decode cX1_codeOf 15 = .ok (.iload_n 1, 1) := by decide +kernel
theorem dX1_codeOf_16 : decode cX1_codeOf 16 = .ok (.i2l, 1) := by decide +kernel
theorem dX1_codeOf_17 : decode cX1_codeOf 17 = .ok (.lstore_n 3, 1) := by decide +kernel
theorem dX1_codeOf_18 : decode cX1_codeOf 18 = .ok (.lload_n 3, 1) := by decide +kernel
theorem dX1_codeOf_19 : decode cX1_codeOf 19 = .ok (.lconst 0, 1) := by decide +kernel
theorem dX1_codeOf_20 : decode cX1_codeOf 20 = .ok (.lcmp, 1) := by decide +kernel
theorem dX1_codeOf_21 : decode cX1_codeOf 21 = .ok (.ifCond .lt 28, 3) := by decide +kernel
theorem dX1_codeOf_24 : decode cX1_codeOf 24 = .ok (.aload_n 0, 1) := by decide +kernel
theorem dX1_codeOf_25 : decode cX1_codeOf 25 = .ok (.getfield 18, 3) := by decide +kernel
theorem dX1_codeOf_28 : decode cX1_codeOf 28 = .ok (.ifCond .ne 7, 3) := by decide +kernel
theorem dX1_codeOf_31 : decode cX1_codeOf 31 = .ok (.lload_n 3, 1) := by decide +kernel
theorem dX1_codeOf_32 : decode cX1_codeOf 32 = .ok (.goto 16, 3) := by decide +kernel
theorem dX1_codeOf_35 : decode cX1_codeOf 35 = .ok (.lload_n 3, 1) := by decide +kernel
theorem dX1_codeOf_36 : decode cX1_codeOf 36 = .ok (.lload_n 3, 1) := by decide +kernel
theorem dX1_codeOf_37 : decode cX1_codeOf 37 = .ok (.iconst 1, 1) := by decide +kernel
theorem dX1_codeOf_38 : decode cX1_codeOf 38 = .ok (.aload_n 0, 1) := by decide +kernel
theorem dX1_codeOf_39 : decode cX1_codeOf 39 = .ok (.getfield 18, 3) := by decide +kernel
theorem dX1_codeOf_42 : decode cX1_codeOf 42 = .ok (.ishl, 1) := by decide +kernel
theorem dX1_codeOf_43 : decode cX1_codeOf 43 = .ok (.iconst 1, 1) := by decide +kernel
theorem dX1_codeOf_44 : decode cX1_codeOf 44 = .ok (.isub, 1) := by decide +kernel
theorem dX1_codeOf_45 : decode cX1_codeOf 45 = .ok (.i2l, 1) := by decide +kernel
theorem dX1_codeOf_46 : decode cX1_codeOf 46 = .ok (.ldiv, 1) := by decide +kernel
theorem dX1_codeOf_47 : decode cX1_codeOf 47 = .ok (.ladd, 1) := by decide +kernel
theorem dX1_codeOf_48 : decode cX1_codeOf 48 = .ok (.lreturn, 1) := by decide +kernel
theorem dX1_codeOf_49 : decode cX1_codeOf 49 = .ok (.lload_n 3, 1) := by decide +kernel
theorem dX1_codeOf_50 : decode cX1_codeOf 50 = .ok (.lneg, 1) := by decide +kernel
theorem dX1_codeOf_51 : decode cX1_codeOf 51 = .ok (.aload_n 0, 1) := by decide +kernel
theorem dX1_codeOf_52 : decode cX1_codeOf 52 = .ok (.getfield 18, 3) := by decide +kernel
theorem dX1_codeOf_55 : decode cX1_codeOf 55 = .ok (.lshl, 1) := by decide +kernel
theorem dX1_codeOf_56 : decode cX1_codeOf 56 = .ok (.lconst 1, 1) := by decide +kernel
theorem dX1_codeOf_57 : decode cX1_codeOf 57 = .ok (.lsub, 1) := by decide +kernel
theorem dX1_codeOf_58 : decode cX1_codeOf 58 = .ok (.lstore 5, 2) := by decide +kernel
theorem dX1_codeOf_60 : decode cX1_codeOf 60 = .ok (.aload_n 0, 1) := by decide +kernel
theorem dX1_codeOf_61 : decode cX1_codeOf 61 = .ok (.getfield 18, 3) := by decide +kernel
theorem dX1_codeOf_64 : decode cX1_codeOf 64 = .ok (.ifCond .eq 17, 3) := by decide +kernel
theorem dX1_codeOf_67 : decode cX1_codeOf 67 = .ok (.lload 5, 2) := by decide +kernel
theorem dX1_codeOf_69 : decode cX1_codeOf 69 = .ok (.ldc2_w 60, 3) := by decide +kernel
theorem dX1_codeOf_72 : decode cX1_codeOf 72 = .ok (.lcmp, 1) := by decide +kernel
theorem dX1_codeOf_73 : decode cX1_codeOf 73 = .ok (.ifCond .ge 8, 3) := by decide +kernel
theorem dX1_codeOf_76 : decode cX1_codeOf 76 = .ok (.lload 5, 2) := by decide +kernel
theorem dX1_codeOf_78 : decode cX1_codeOf 78 = .ok (.goto 6, 3) := by decide +kernel
theorem dX1_codeOf_81 : decode cX1_codeOf 81 = .ok (.ldc2_w 50, 3) := by decide +kernel
theorem dX1_codeOf_84 : decode cX1_codeOf 84 = .ok (.lreturn, 1) := by decide +kernel
theorem dX1_numberOf_0 : decode cX1_numberOf 0 = .ok (.lload_n 1, 1) := by decide +kernel
theorem dX1_numberOf_1 : decode cX1_numberOf 1 = .ok (.ldc2_w 60, 3) := by decide +kernel
theorem dX1_numberOf_4 : decode cX1_numberOf 4 = .ok (.lcmp, 1) := by decide +kernel
theorem dX1_numberOf_5 : decode cX1_numberOf 5 = .ok (.ifCond .lt 7, 3) := by decide +kernel
theorem dX1_numberOf_8 : decode cX1_numberOf 8 = .ok (.ldc2_w 60, 3) := by decide +kernel
theorem dX1_numberOf_11 : decode cX1_numberOf 11 = .ok (.lreturn, 1) := by decide +kernel
theorem dX1_numberOf_12 : decode cX1_numberOf 12 = .ok (.aload_n 0, 1) := by decide +kernel
theorem dX1_numberOf_13 : decode cX1_numberOf 13 = .ok (.getfield 18, 3) := by decide +kernel
theorem dX1_numberOf_16 : decode cX1_numberOf 16 = .ok (.ifCond .eq 23, 3) := by decide +kernel
theorem dX1_numberOf_19 : decode cX1_numberOf 19 = .ok (.lload_n 1, 1) := by decide +kernel
theorem dX1_numberOf_20 : decode cX1_numberOf 20 = .ok (.lconst 1, 1) := by decide +kernel
theorem dX1_numberOf_21 : decode cX1_numberOf 21 = .ok (.ladd, 1) := by decide +kernel
theorem dX1_numberOf_22 : decode cX1_numberOf 22 = .ok (.iconst 1, 1) := by decide +kernel
theorem dX1_numberOf_23 : decode cX1_numberOf 23 = .ok (.aload_n 0, 1) := by decide +kernel
theorem dX1_numberOf_24 : decode cX1_numberOf 24 = .ok (.getfield 18, 3) := by decide +kernel
theorem dX1_numberOf_27 : decode cX1_numberOf 27 = .ok (.ishl, 1) := by decide +kernel
theorem dX1_numberOf_28 : decode cX1_numberOf 28 = .ok (.i2l, 1) := by decide +kernel
theorem dX1_numberOf_29 : decode cX1_numberOf 29 = .ok (.lrem, 1) := by decide +kernel
theorem dX1_numberOf_30 : decode cX1_numberOf 30 = .ok (.lconst 0, 1) := by decide +kernel
theorem dX1_numberOf_31 : decode cX1_numberOf 31 = .ok (.lcmp, 1) := by decide +kernel
theorem dX1_numberOf_32 : decode cX1_numberOf 32 = .ok (.ifCond .ne 7, 3) := by decide +kernel
theorem dX1_numberOf_35 : decode cX1_numberOf 35 = .ok (.iconst 1, 1) := by decide +kernel
theorem dX1_numberOf_36 : decode cX1_numberOf 36 = .ok (.goto 4, 3) := by decide +kernel
theorem dX1_numberOf_39 : decode cX1_numberOf 39 = .ok (.iconst 0, 1) := by decide +kernel
theorem dX1_numberOf_40 : decode cX1_numberOf 40 = .ok (.istore_n 3, 1) := by decide +kernel
theorem dX1_numberOf_41 : decode cX1_numberOf 41 = .ok (.iload_n 3, 1) := by decide +kernel
theorem dX1_numberOf_42 : decode cX1_numberOf 42 = .ok (.ifCond .eq 13, 3) := by decide +kernel
theorem dX1_numberOf_45 : decode cX1_numberOf 45 = .ok (.lload_n 1, 1) := by decide +kernel
theorem dX1_numberOf_46 : decode cX1_numberOf 46 = .ok (.lconst 1, 1) := by decide +kernel
theorem dX1_numberOf_47 : decode cX1_numberOf 47 = .ok (.ladd, 1) := by decide +kernel
theorem dX1_numberOf_48 : decode cX1_numberOf 48 = .ok (.aload_n 0, 1) := by decide +kernel
theorem dX1_numberOf_49 : decode cX1_numberOf 49 = .ok (.getfield 18, 3) := by decide +kernel
theorem dX1_numberOf_52 : decode cX1_numberOf 52 = .ok (.lshr, 1) := by decide +kernel
theorem dX1_numberOf_53 : decode cX1_numberOf 53 = .ok (.lneg, 1) := by decide +kernel
theorem dX1_numberOf_54 : decode cX1_numberOf 54 = .ok (.lreturn, 1) := by decide +kernel
theorem dX1_numberOf_55 : decode cX1_numberOf 55 = .ok (.aload_n 0, 1) := by decide +kernel
theorem dX1_numberOf_56 : decode cX1_numberOf 56 = .ok (.getfield 18, 3) := by decide +kernel
theorem dX1_numberOf_59 : decode cX1_numberOf 59 = .ok (.ifCond .ne 7, 3) := by decide +kernel
theorem dX1_numberOf_62 : decode cX1_numberOf 62 = .ok (.lload_n 1, 1) := by decide +kernel
theorem dX1_numberOf_63 : decode cX1_numberOf 63 = .ok (.goto 11, 3) := by decide +kernel
theorem dX1_numberOf_66 : decode cX1_numberOf 66 = .ok (.lload_n 1, 1) := by decide +kernel
theorem dX1_numberOf_67 : decode cX1_numberOf 67 = .ok (.lload_n 1, 1) := by decide +kernel
theorem dX1_numberOf_68 : decode cX1_numberOf 68 = .ok (.aload_n 0, 1) := by decide +kernel
theorem dX1_numberOf_69 : decode cX1_numberOf 69 = .ok (.getfield 18, 3) := by decide +kernel
theorem dX1_numberOf_72 : decode cX1_numberOf 72 = .ok (.lshr, 1) := by decide +kernel
theorem dX1_numberOf_73 : decode cX1_numberOf 73 = .ok (.lsub, 1) := by decide +kernel
theorem dX1_numberOf_74 : decode cX1_numberOf 74 = .ok (.lstore 4, 2) := by decide +kernel
theorem dX1_numberOf_76 : decode cX1_numberOf 76 = .ok (.lload 4, 2) := by decide +kernel
theorem dX1_numberOf_78 : decode cX1_numberOf 78 = .ok (.ldc2_w 71, 3) := by decide +kernel
theorem dX1_numberOf_81 : decode cX1_numberOf 81 = .ok (.lcmp, 1) := by decide +kernel
theorem dX1_numberOf_82 : decode cX1_numberOf 82 = .ok (.ifCond .ge 8, 3) := by decide +kernel
theorem dX1_numberOf_85 : decode cX1_numberOf 85 = .ok (.lload 4, 2) := by decide +kernel
theorem dX1_numberOf_87 : decode cX1_numberOf 87 = .ok (.goto 6, 3) := by decide +kernel
theorem dX1_numberOf_90 : decode cX1_numberOf 90 = .ok (.ldc2_w 60, 3) := by decide +kernel
theorem dX1_numberOf_93 : decode cX1_numberOf 93 = .ok (.lreturn, 1) := by decide +kernel
theorem dX2_init_0 : decode cX2_init 0 = .ok (.aload_n 0, 1) := by decide +kernel
theorem dX2_init_1 : decode cX2_init 1 = .ok (.invokespecial 3, 3) := by decide +kernel
theorem dX2_init_4 : decode cX2_init 4 = .ok (.aload_n 0, 1) := by decide +kernel
theorem dX2_init_5 : decode cX2_init 5 = .ok (.new 9, 3) := by decide +kernel
theorem dX2_init_8 : decode cX2_init 8 = .ok (.dup, 1) := by decide +kernel
theorem dX2_init_9 : decode cX2_init 9 = .ok (.invokespecial 11, 3) := by decide +kernel
theorem dX2_init_12 : decode cX2_init 12 = .ok (.putfield 12, 3) := by decide +kernel
theorem dX2_init_15 : decode cX2_init 15 = .ok (.aload_n 0, 1) := by decide +kernel
theorem dX2_init_16 : decode cX2_init 16 = .ok (.new 18, 3) := by decide +kernel
theorem dX2_init_19 : decode cX2_init 19 = .ok (.dup, 1) := by decide +kernel
theorem dX2_init_20 : decode cX2_init 20 = .ok (.invokespecial 20, 3) := by decide +kernel
theorem dX2_init_23 : decode cX2_init 23 = .ok (.putfield 21, 3) := by decide +kernel
theorem dX2_init_26 : decode cX2_init 26 = .ok (.aload_n 0, 1) := by decide +kernel
theorem dX2_init_27 : decode cX2_init 27 = .ok (.iconst 4, 1) := by decide +kernel
theorem dX2_init_28 : decode cX2_init 28 = .ok (.anewarray 25, 3) := by decide +kernel
theorem dX2_init_31 : decode cX2_init 31 = .ok (.putfield 27, 3) := by decide +kernel
theorem dX2_init_34 : decode cX2_init 34 = .ok (.iconst 0, 1) := by decide +kernel
theorem dX2_init_35 : decode cX2_init 35 = .ok (.istore_n 1, 1) := by decide +kernel
theorem dX2_init_36 : decode cX2_init 36 = .ok (.iload_n 1, 1) := by decide +kernel
theorem dX2_init_37 : decode cX2_init 37 = .ok (.iconst 4, 1) := by decide +kernel
theorem dX2_init_38 : decode cX2_init 38 = .ok (.if_icmp .ge 22, 3) := by decide +kernel
theorem dX2_init_41 : decode cX2_init 41 = .ok (.aload_n 0, 1) := by decide +kernel
theorem dX2_init_42 : decode cX2_init 42 = .ok (.getfield 27, 3) := by decide +kernel
theorem dX2_init_45 : decode cX2_init 45 = .ok (.iload_n 1, 1) := by decide +kernel
theorem dX2_init_46 : decode cX2_init 46 = .ok (.new 25, 3) := by decide +kernel
theorem dX2_init_49 : decode cX2_init 49 = .ok (.dup, 1) := by decide +kernel
theorem dX2_init_50 : decode cX2_init 50 = .ok (.invokespecial 31, 3) := by decide +kernel
theorem dX2_init_53 : decode cX2_init 53 = .ok (.aastore, 1) := by decide +kernel
theorem dX2_init_54 : decode cX2_init 54 = .ok (.iinc 1 1, 3) := by decide +kernel
theorem dX2_init_57 : decode cX2_init 57 = .ok (.goto (-21), 3) := by decide +kernel
theorem dX2_init_60 : decode cX2_init 60 = .ok (.return_, 1) := by decide +kernel
theorem dX3_init_0 : decode cX3_init 0 = .ok (.aload_n 0, 1) := by decide +kernel
theorem dX3_init_1 : decode cX3_init 1 = .ok (.invokespecial 3, 3) := by decide +kernel
theorem dX3_init_4 : decode cX3_init 4 = .ok (.aload_n 0, 1) := by decide +kernel
theorem dX3_init_5 : decode cX3_init 5 = .ok (.bipush 51, 2) := by decide +kernel
theorem dX3_init_7 : decode cX3_init 7 = .ok (.newarray .int, 2) := by decide +kernel
theorem dX3_init_9 : decode cX3_init 9 = .ok (.putfield 9, 3) := by decide +kernel
theorem dX3_init_12 : decode cX3_init 12 = .ok (.aload_n 0, 1) := by decide +kernel
theorem dX3_init_13 : decode cX3_init 13 = .ok (.sipush 400, 3) := by decide +kernel
theorem dX3_init_16 : decode cX3_init 16 = .ok (.newarray .int, 2) := by decide +kernel
theorem dX3_init_18 : decode cX3_init 18 = .ok (.putfield 15, 3) := by decide +kernel
theorem dX3_init_21 : decode cX3_init 21 = .ok (.return_, 1) := by decide +kernel
theorem dX4_init_0 : decode cX4_init 0 = .ok (.aload_n 0, 1) := by decide +kernel
theorem dX4_init_1 : decode cX4_init 1 = .ok (.iload_n 1, 1) := by decide +kernel
theorem dX4_init_2 : decode cX4_init 2 = .ok (.invokespecial 3, 3) := by decide +kernel
theorem dX4_init_5 : decode cX4_init 5 = .ok (.aload_n 0, 1) := by decide +kernel
theorem dX4_init_6 : decode cX4_init 6 = .ok (.iload_n 2, 1) := by decide +kernel
theorem dX4_init_7 : decode cX4_init 7 = .ok (.putfield 9, 3) := by decide +kernel
theorem dX4_init_10 : decode cX4_init 10 = .ok (.aload_n 0, 1) := by decide +kernel
theorem dX4_init_11 : decode cX4_init 11 = .ok (.aload_n 3, 1) := by decide +kernel
theorem dX4_init_12 : decode cX4_init 12 = .ok (.putfield 15, 3) := by decide +kernel
theorem dX4_init_15 : decode cX4_init 15 = .ok (.aload_n 0, 1) := by decide +kernel
theorem dX4_init_16 : decode cX4_init 16 = .ok (.aload 4, 2) := by decide +kernel
theorem dX4_init_18 : decode cX4_init 18 = .ok (.putfield 19, 3) := by decide +kernel
theorem dX4_init_21 : decode cX4_init 21 = .ok (.aload_n 0, 1) := by decide +kernel
theorem dX4_init_22 : decode cX4_init 22 = .ok (.aload 5, 2) := by decide +kernel
theorem dX4_init_24 : decode cX4_init 24 = .ok (.putfield 22, 3) := by decide +kernel
theorem dX4_init_27 : decode cX4_init 27 = .ok (.return_, 1) := by decide +kernel
theorem dX4_write_0 : decode cX4_write 0 = .ok (.aload_n 1, 1) := by decide +kernel
theorem dX4_write_1 : decode cX4_write 1 = .ok (.getfield 25, 3) := by decide +kernel
theorem dX4_write_4 : decode cX4_write 4 = .ok (.aload_n 0, 1) := by decide +kernel
theorem dX4_write_5 : decode cX4_write 5 = .ok (.getfield 31, 3) := by decide +kernel
theorem dX4_write_8 : decode cX4_write 8 = .ok (.iconst 1, 1) := by decide +kernel
theorem dX4_write_9 : decode cX4_write 9 = .ok (.isub, 1) := by decide +kernel
theorem dX4_write_10 : decode cX4_write 10 = .ok (.aaload, 1) := by decide +kernel
theorem dX4_write_11 : decode cX4_write 11 = .ok (.astore 5, 2) := by decide +kernel
theorem dX4_write_13 : decode cX4_write 13 = .ok (.aload_n 1, 1) := by decide +kernel
theorem dX4_write_14 : decode cX4_write 14 = .ok (.getfield 34, 3) := by decide +kernel
theorem dX4_write_17 : decode cX4_write 17 = .ok (.aload_n 2, 1) := by decide +kernel
theorem dX4_write_18 : decode cX4_write 18 = .ok (.iload_n 3, 1) := by decide +kernel
theorem dX4_write_19 : decode cX4_write 19 = .ok (.iload 4, 2) := by decide +kernel
theorem dX4_write_21 : decode cX4_write 21 = .ok (.aload_n 0, 1) := by decide +kernel
theorem dX4_write_22 : decode cX4_write 22 = .ok (.getfield 9, 3) := by decide +kernel
theorem dX4_write_25 : decode cX4_write 25 = .ok (.aload 5, 2) := by decide +kernel
theorem dX4_write_27 : decode cX4_write 27 = .ok (.invokevirtual 38, 3) := by decide +kernel
theorem dX4_write_30 : decode cX4_write 30 = .ok (.aload_n 0, 1) := by decide +kernel
theorem dX4_write_31 : decode cX4_write 31 = .ok (.getfield 15, 3) := by decide +kernel
theorem dX4_write_34 : decode cX4_write 34 = .ok (.aload_n 1, 1) := by decide +kernel
theorem dX4_write_35 : decode cX4_write 35 = .ok (.aload 5, 2) := by decide +kernel
theorem dX4_write_37 : decode cX4_write 37 = .ok (.getfield 44, 3) := by decide +kernel
theorem dX4_write_40 : decode cX4_write 40 = .ok (.iconst 0, 1) := by decide +kernel
theorem dX4_write_41 : decode cX4_write 41 = .ok (.iconst 1, 1) := by decide +kernel
theorem dX4_write_42 : decode cX4_write 42 = .ok (.invokevirtual 50, 3) := by decide +kernel
theorem dX4_write_45 : decode cX4_write 45 = .ok (.ifCond .eq 46, 3) := by decide +kernel
theorem dX4_write_48 : decode cX4_write 48 = .ok (.aload_n 0, 1) := by decide +kernel
theorem dX4_write_49 : decode cX4_write 49 = .ok (.getfield 15, 3) := by decide +kernel
theorem dX4_write_52 : decode cX4_write 52 = .ok (.aload_n 1, 1) := by decide +kernel
theorem dX4_write_53 : decode cX4_write 53 = .ok (.aload 5, 2) := by decide +kernel
theorem dX4_write_55 : decode cX4_write 55 = .ok (.getfield 44, 3) := by decide +kernel
theorem dX4_write_58 : decode cX4_write 58 = .ok (.iconst 1, 1) := by decide +kernel
theorem dX4_write_59 : decode cX4_write 59 = .ok (.aload 5, 2) := by decide +kernel
theorem dX4_write_61 : decode cX4_write 61 = .ok (.getfield 44, 3) := by decide +kernel
theorem dX4_write_64 : decode cX4_write 64 = .ok (.iconst 0, 1) := by decide +kernel
theorem dX4_write_65 : decode cX4_write 65 = .ok (.iaload, 1) := by decide +kernel
theorem dX4_write_66 : decode cX4_write 66 = .ok (.invokevirtual 50, 3) := by decide +kernel
theorem dX4_write_69 : decode cX4_write 69 = .ok (.ifCond .eq 22, 3) := by decide +kernel
theorem dX4_write_72 : decode cX4_write 72 = .ok (.aload_n 0, 1) := by decide +kernel
theorem dX4_write_73 : decode cX4_write 73 = .ok (.getfield 19, 3) := by decide +kernel
theorem dX4_write_76 : decode cX4_write 76 = .ok (.aload_n 1, 1) := by decide +kernel
theorem dX4_write_77 : decode cX4_write 77 = .ok (.aload 5, 2) := by decide +kernel
theorem dX4_write_79 : decode cX4_write 79 = .ok (.getfield 54, 3) := by decide +kernel
theorem dX4_write_82 : decode cX4_write 82 = .ok (.iconst 0, 1) := by decide +kernel
theorem dX4_write_83 : decode cX4_write 83 = .ok (.iload 4, 2) := by decide +kernel
theorem dX4_write_85 : decode cX4_write 85 = .ok (.invokevirtual 50, 3) := by decide +kernel
theorem dX4_write_88 : decode cX4_write 88 = .ok (.ifCond .ne 5, 3) := by decide +kernel
theorem dX4_write_91 : decode cX4_write 91 = .ok (.iconst 0, 1) := by decide +kernel
theorem dX4_write_92 : decode cX4_write 92 = .ok (.ireturn, 1) := by decide +kernel
theorem dX4_write_93 : decode cX4_write 93 = .ok (.aload_n 2, 1) := by decide +kernel
theorem dX4_write_94 : decode cX4_write 94 = .ok (.iload_n 3, 1) := by decide +kernel
theorem dX4_write_95 : decode cX4_write 95 = .ok (.iload 4, 2) := by decide +kernel
theorem dX4_write_97 : decode cX4_write 97 = .ok (.aload 5, 2) := by decide +kernel
theorem dX4_write_99 : decode cX4_write 99 = .ok (.getfield 54, 3) := by decide +kernel
theorem dX4_write_102 : decode cX4_write 102 = .ok (.invokestatic 57, 3) := by decide +kernel
theorem dX4_write_105 : decode cX4_write 105 = .ok (.istore 6, 2) := by decide +kernel
theorem dX4_write_107 : decode cX4_write 107 = .ok (.aload_n 0, 1) := by decide +kernel
theorem dX4_write_108 : decode cX4_write 108 = .ok (.getfield 22, 3) := by decide +kernel
theorem dX4_write_111 : decode cX4_write 111 = .ok (.aload_n 1, 1) := by decide +kernel
theorem dX4_write_112 : decode cX4_write 112 = .ok (.aload 5, 2) := by decide +kernel
theorem dX4_write_114 : decode cX4_write 114 = .ok (.getfield 54, 3) := by decide +kernel
theorem dX4_write_117 : decode cX4_write 117 = .ok (.iconst 0, 1) := by decide +kernel
theorem dX4_write_118 : decode cX4_write 118 = .ok (.iload 6, 2) := by decide +kernel
theorem dX4_write_120 : decode cX4_write 120 = .ok (.invokevirtual 50, 3) := by decide +kernel
theorem dX4_write_123 : decode cX4_write 123 = .ok (.ireturn, 1) := by decide +kernel
theorem dX4_read_0 : decode cX4_read 0 = .ok (.aload_n 1, 1) := by decide +kernel
theorem dX4_read_1 : decode cX4_read 1 = .ok (.getfield 61, 3) := by decide +kernel
theorem dX4_read_4 : decode cX4_read 4 = .ok (.astore 5, 2) := by decide +kernel
theorem dX4_read_6 : decode cX4_read 6 = .ok (.aload_n 1, 1) := by decide +kernel
theorem dX4_read_7 : decode cX4_read 7 = .ok (.getfield 25, 3) := by decide +kernel
theorem dX4_read_10 : decode cX4_read 10 = .ok (.aload_n 0, 1) := by decide +kernel
theorem dX4_read_11 : decode cX4_read 11 = .ok (.getfield 31, 3) := by decide +kernel
theorem dX4_read_14 : decode cX4_read 14 = .ok (.iconst 1, 1) := by decide +kernel
theorem dX4_read_15 : decode cX4_read 15 = .ok (.isub, 1) := by decide +kernel
theorem dX4_read_16 : decode cX4_read 16 = .ok (.aaload, 1) := by decide +kernel
theorem dX4_read_17 : decode cX4_read 17 = .ok (.astore 6, 2) := by decide +kernel
theorem dX4_read_19 : decode cX4_read 19 = .ok (.aload 5, 2) := by decide +kernel
theorem dX4_read_21 : decode cX4_read 21 = .ok (.getfield 65, 3) := by decide +kernel
theorem dX4_read_24 : decode cX4_read 24 = .ok (.istore 7, 2) := by decide +kernel
theorem dX4_read_26 : decode cX4_read 26 = .ok (.aload_n 0, 1) := by decide +kernel
theorem dX4_read_27 : decode cX4_read 27 = .ok (.getfield 15, 3) := by decide +kernel
theorem dX4_read_30 : decode cX4_read 30 = .ok (.aload_n 1, 1) := by decide +kernel
theorem dX4_read_31 : decode cX4_read 31 = .ok (.aload 6, 2) := by decide +kernel
theorem dX4_read_33 : decode cX4_read 33 = .ok (.getfield 44, 3) := by decide +kernel
theorem dX4_read_36 : decode cX4_read 36 = .ok (.iconst 0, 1) := by decide +kernel
theorem dX4_read_37 : decode cX4_read 37 = .ok (.iconst 1, 1) := by decide +kernel
theorem dX4_read_38 : decode cX4_read 38 = .ok (.invokevirtual 70, 3) := by decide +kernel
theorem dX4_read_41 : decode cX4_read 41 = .ok (.ifCond .ne 5, 3) := by decide +kernel
theorem dX4_read_44 : decode cX4_read 44 = .ok (.iconst 0, 1) := by decide +kernel
theorem dX4_read_45 : decode cX4_read 45 = .ok (.ireturn, 1) := by decide +kernel
theorem dX4_read_46 : decode cX4_read 46 = .ok (.aload 6, 2) := by decide +kernel
theorem dX4_read_48 : decode cX4_read 48 = .ok (.getfield 44, 3) := by decide +kernel
theorem dX4_read_51 : decode cX4_read 51 = .ok (.iconst 0, 1) := by decide +kernel
theorem dX4_read_52 : decode cX4_read 52 = .ok (.iaload, 1) := by decide +kernel
theorem dX4_read_53 : decode cX4_read 53 = .ok (.istore 8, 2) := by decide +kernel
theorem dX4_read_55 : decode cX4_read 55 = .ok (.iload 8, 2) := by decide +kernel
theorem dX4_read_57 : decode cX4_read 57 = .ok (.ifCond .lt 12, 3) := by decide +kernel
theorem dX4_read_60 : decode cX4_read 60 = .ok (.iload 8, 2) := by decide +kernel
theorem dX4_read_62 : decode cX4_read 62 = .ok (.aload_n 0, 1) := by decide +kernel
theorem dX4_read_63 : decode cX4_read 63 = .ok (.getfield 9, 3) := by decide +kernel
theorem dX4_read_66 : decode cX4_read 66 = .ok (.if_icmp .le 12, 3) := by decide +kernel
theorem dX4_read_69 : decode cX4_read 69 = .ok (.aload 5, 2) := by decide +kernel
theorem dX4_read_71 : decode cX4_read 71 = .ok (.iconst 3, 1) := by decide +kernel
theorem dX4_read_72 : decode cX4_read 72 = .ok (.iload 7, 2) := by decide +kernel
theorem dX4_read_74 : decode cX4_read 74 = .ok (.invokevirtual 73, 3) := by decide +kernel
theorem dX4_read_77 : decode cX4_read 77 = .ok (.ireturn, 1) := by decide +kernel
theorem dX4_read_78 : decode cX4_read 78 = .ok (.aload_n 0, 1) := by decide +kernel
theorem dX4_read_79 : decode cX4_read 79 = .ok (.getfield 15, 3) := by decide +kernel
theorem dX4_read_82 : decode cX4_read 82 = .ok (.aload_n 1, 1) := by decide +kernel
theorem dX4_read_83 : decode cX4_read 83 = .ok (.aload 6, 2) := by decide +kernel
theorem dX4_read_85 : decode cX4_read 85 = .ok (.getfield 44, 3) := by decide +kernel
theorem dX4_read_88 : decode cX4_read 88 = .ok (.iconst 1, 1) := by decide +kernel
theorem dX4_read_89 : decode cX4_read 89 = .ok (.iload 8, 2) := by decide +kernel
theorem dX4_read_91 : decode cX4_read 91 = .ok (.invokevirtual 70, 3) := by decide +kernel
theorem dX4_read_94 : decode cX4_read 94 = .ok (.ifCond .ne 5, 3) := by decide +kernel
theorem dX4_read_97 : decode cX4_read 97 = .ok (.iconst 0, 1) := by decide +kernel
theorem dX4_read_98 : decode cX4_read 98 = .ok (.ireturn, 1) := by decide +kernel
theorem dX4_read_99 : decode cX4_read 99 = .ok (.aload 5, 2) := by decide +kernel
theorem dX4_read_101 : decode cX4_read 101 = .ok (.getfield 65, 3) := by decide +kernel
theorem dX4_read_104 : decode cX4_read 104 = .ok (.istore 7, 2) := by decide +kernel
theorem dX4_read_106 : decode cX4_read 106 = .ok (.aload_n 0, 1) := by decide +kernel
theorem dX4_read_107 : decode cX4_read 107 = .ok (.getfield 19, 3) := by decide +kernel
theorem dX4_read_110 : decode cX4_read 110 = .ok (.aload_n 1, 1) := by decide +kernel
theorem dX4_read_111 : decode cX4_read 111 = .ok (.aload_n 2, 1) := by decide +kernel
theorem dX4_read_112 : decode cX4_read 112 = .ok (.iload_n 3, 1) := by decide +kernel
theorem dX4_read_113 : decode cX4_read 113 = .ok (.iload 4, 2) := by decide +kernel
theorem dX4_read_115 : decode cX4_read 115 = .ok (.invokevirtual 70, 3) := by decide +kernel
theorem dX4_read_118 : decode cX4_read 118 = .ok (.ifCond .ne 5, 3) := by decide +kernel
theorem dX4_read_121 : decode cX4_read 121 = .ok (.iconst 0, 1) := by decide +kernel
theorem dX4_read_122 : decode cX4_read 122 = .ok (.ireturn, 1) := by decide +kernel
theorem dX4_read_123 : decode cX4_read 123 = .ok (.aload_n 2, 1) := by decide +kernel
theorem dX4_read_124 : decode cX4_read 124 = .ok (.iload_n 3, 1) := by decide +kernel
theorem dX4_read_125 : decode cX4_read 125 = .ok (.iload 4, 2) := by decide +kernel
theorem dX4_read_127 : decode cX4_read 127 = .ok (.iload 8, 2) := by decide +kernel
theorem dX4_read_129 : decode cX4_read 129 = .ok (.invokestatic 77, 3) := by decide +kernel
theorem dX4_read_132 : decode cX4_read 132 = .ok (.istore 9, 2) := by decide +kernel
theorem dX4_read_134 : decode cX4_read 134 = .ok (.iload 9, 2) := by decide +kernel
theorem dX4_read_136 : decode cX4_read 136 = .ok (.iconst (-1), 1) := by decide +kernel
theorem dX4_read_137 : decode cX4_read 137 = .ok (.if_icmp .ne 12, 3) := by decide +kernel
theorem dX4_read_140 : decode cX4_read 140 = .ok (.aload 5, 2) := by decide +kernel
theorem dX4_read_142 : decode cX4_read 142 = .ok (.iconst 3, 1) := by decide +kernel
theorem dX4_read_143 : decode cX4_read 143 = .ok (.iload 7, 2) := by decide +kernel
theorem dX4_read_145 : decode cX4_read 145 = .ok (.invokevirtual 73, 3) := by decide +kernel
theorem dX4_read_148 : decode cX4_read 148 = .ok (.ireturn, 1) := by decide +kernel
theorem dX4_read_149 : decode cX4_read 149 = .ok (.aload_n 0, 1) := by decide +kernel
theorem dX4_read_150 : decode cX4_read 150 = .ok (.getfield 22, 3) := by decide +kernel
theorem dX4_read_153 : decode cX4_read 153 = .ok (.aload_n 1, 1) := by decide +kernel
theorem dX4_read_154 : decode cX4_read 154 = .ok (.aload 6, 2) := by decide +kernel
theorem dX4_read_156 : decode cX4_read 156 = .ok (.getfield 54, 3) := by decide +kernel
theorem dX4_read_159 : decode cX4_read 159 = .ok (.iconst 0, 1) := by decide +kernel
theorem dX4_read_160 : decode cX4_read 160 = .ok (.iload 9, 2) := by decide +kernel
theorem dX4_read_162 : decode cX4_read 162 = .ok (.invokevirtual 70, 3) := by decide +kernel
theorem dX4_read_165 : decode cX4_read 165 = .ok (.ifCond .ne 5, 3) := by decide +kernel
theorem dX4_read_168 : decode cX4_read 168 = .ok (.iconst 0, 1) := by decide +kernel
theorem dX4_read_169 : decode cX4_read 169 = .ok (.ireturn, 1) := by decide +kernel
theorem dX4_read_170 : decode cX4_read 170 = .ok (.aload_n 2, 1) := by decide +kernel
theorem dX4_read_171 : decode cX4_read 171 = .ok (.iload_n 3, 1) := by decide +kernel
theorem dX4_read_172 : decode cX4_read 172 = .ok (.iload 4, 2) := by decide +kernel
theorem dX4_read_174 : decode cX4_read 174 = .ok (.aload 6, 2) := by decide +kernel
theorem dX4_read_176 : decode cX4_read 176 = .ok (.invokestatic 81, 3) := by decide +kernel
theorem dX4_read_179 : decode cX4_read 179 = .ok (.iconst 1, 1) := by decide +kernel
theorem dX4_read_180 : decode cX4_read 180 = .ok (.ireturn, 1) := by decide +kernel
theorem dX4_gatherOthers_0 : decode cX4_gatherOthers 0 = .ok (.iconst 0, 1) := by decide +kernel
theorem dX4_gatherOthers_1 : decode cX4_gatherOthers 1 = .ok (.istore 4, 2) := by decide +kernel
theorem dX4_gatherOthers_3 : decode cX4_gatherOthers 3 = .ok (.iconst 0, 1) := by decide +kernel
theorem dX4_gatherOthers_4 : decode cX4_gatherOthers 4 = .ok (.istore 5, 2) := by decide +kernel
theorem dX4_gatherOthers_6 : decode cX4_gatherOthers 6 = .ok (.iload 5, 2) := by decide +kernel
theorem dX4_gatherOthers_8 : decode cX4_gatherOthers 8 = .ok (.iload_n 2, 1) := by decide +kernel
theorem dX4_gatherOthers_9 : decode cX4_gatherOthers 9 = .ok (.if_icmp .ge 29, 3) := by decide +kernel
theorem dX4_gatherOthers_12 : decode cX4_gatherOthers 12 = .ok (.aload_n 3, 1) := by decide +kernel
theorem dX4_gatherOthers_13 : decode cX4_gatherOthers 13 = .ok (.iload 5, 2) := by decide +kernel
theorem dX4_gatherOthers_15 : decode cX4_gatherOthers 15 = .ok (.iaload, 1) := by decide +kernel
theorem dX4_gatherOthers_16 : decode cX4_gatherOthers 16 = .ok (.ifCond .ne 16, 3) := by decide +kernel
theorem dX4_gatherOthers_19 : decode cX4_gatherOthers 19 = .ok (.aload_n 3, 1) := by decide +kernel
theorem dX4_gatherOthers_20 : decode cX4_gatherOthers 20 = .ok (.iload 4, 2) := by decide +kernel
theorem dX4_gatherOthers_22 : decode cX4_gatherOthers 22 = .ok (.aload_n 0, 1) := by decide +kernel
theorem dX4_gatherOthers_23 : decode cX4_gatherOthers 23 = .ok (.iload_n 1, 1) := by decide +kernel
theorem dX4_gatherOthers_24 : decode cX4_gatherOthers 24 = .ok (.iload 5, 2) := by decide +kernel
theorem dX4_gatherOthers_26 : decode cX4_gatherOthers 26 = .ok (.iadd, 1) := by decide +kernel
theorem dX4_gatherOthers_27 : decode cX4_gatherOthers 27 = .ok (.iaload, 1) := by decide +kernel
theorem dX4_gatherOthers_28 : decode cX4_gatherOthers 28 = .ok (.iastore, 1) := by decide +kernel
theorem dX4_gatherOthers_29 : decode cX4_gatherOthers 29 = .ok (.iinc 4 1, 3) := by decide +kernel
theorem dX4_gatherOthers_32 : decode cX4_gatherOthers 32 = .ok (.iinc 5 1, 3) := by decide +kernel
theorem dX4_gatherOthers_35 : decode cX4_gatherOthers 35 = .ok (.goto (-29), 3) := by decide +kernel
theorem dX4_gatherOthers_38 : decode cX4_gatherOthers 38 = .ok (.iload 4, 2) := by decide +kernel
theorem dX4_gatherOthers_40 : decode cX4_gatherOthers 40 = .ok (.ireturn, 1) := by decide +kernel
theorem dX4_countOthers_0 : decode cX4_countOthers 0 = .ok (.iconst 0, 1) := by decide +kernel
theorem dX4_countOthers_1 : decode cX4_countOthers 1 = .ok (.istore 4, 2) := by decide +kernel
theorem dX4_countOthers_3 : decode cX4_countOthers 3 = .ok (.iload_n 1, 1) := by decide +kernel
theorem dX4_countOthers_4 : decode cX4_countOthers 4 = .ok (.istore 5, 2) := by decide +kernel
theorem dX4_countOthers_6 : decode cX4_countOthers 6 = .ok (.iload 5, 2) := by decide +kernel
theorem dX4_countOthers_8 : decode cX4_countOthers 8 = .ok (.iload_n 1, 1) := by decide +kernel
theorem dX4_countOthers_9 : decode cX4_countOthers 9 = .ok (.iload_n 2, 1) := by decide +kernel
theorem dX4_countOthers_10 : decode cX4_countOthers 10 = .ok (.iadd, 1) := by decide +kernel
theorem dX4_countOthers_11 : decode cX4_countOthers 11 = .ok (.if_icmp .ge 36, 3) := by decide +kernel
theorem dX4_countOthers_14 : decode cX4_countOthers 14 = .ok (.aload_n 0, 1) := by decide +kernel
theorem dX4_countOthers_15 : decode cX4_countOthers 15 = .ok (.iload 5, 2) := by decide +kernel
theorem dX4_countOthers_17 : decode cX4_countOthers 17 = .ok (.iaload, 1) := by decide +kernel
theorem dX4_countOthers_18 : decode cX4_countOthers 18 = .ok (.ifCond .lt 11, 3) := by decide +kernel
theorem dX4_countOthers_21 : decode cX4_countOthers 21 = .ok (.aload_n 0, 1) := by decide +kernel
theorem dX4_countOthers_22 : decode cX4_countOthers 22 = .ok (.iload 5, 2) := by decide +kernel
theorem dX4_countOthers_24 : decode cX4_countOthers 24 = .ok (.iaload, 1) := by decide +kernel
theorem dX4_countOthers_25 : decode cX4_countOthers 25 = .ok (.iload_n 3, 1) := by decide +kernel
theorem dX4_countOthers_26 : decode cX4_countOthers 26 = .ok (.if_icmp .le 5, 3) := by decide +kernel
theorem dX4_countOthers_29 : decode cX4_countOthers 29 = .ok (.iconst (-1), 1) := by decide +kernel
theorem dX4_countOthers_30 : decode cX4_countOthers 30 = .ok (.ireturn, 1) := by decide +kernel
theorem dX4_countOthers_31 : decode cX4_countOthers 31 = .ok (.aload_n 0, 1) := by decide +kernel
theorem dX4_countOthers_32 : decode cX4_countOthers 32 = .ok (.iload 5, 2) := by decide +kernel
theorem dX4_countOthers_34 : decode cX4_countOthers 34 = .ok (.iaload, 1) := by decide +kernel
theorem dX4_countOthers_35 : decode cX4_countOthers 35 = .ok (.ifCond .ne 6, 3) := by decide +kernel
theorem dX4_countOthers_38 : decode cX4_countOthers 38 = .ok (.iinc 4 1, 3) := by decide +kernel
theorem dX4_countOthers_41 : decode cX4_countOthers 41 = .ok (.iinc 5 1, 3) := by decide +kernel
theorem dX4_countOthers_44 : decode cX4_countOthers 44 = .ok (.goto (-38), 3) := by decide +kernel
theorem dX4_countOthers_47 : decode cX4_countOthers 47 = .ok (.iload 4, 2) := by decide +kernel
theorem dX4_countOthers_49 : decode cX4_countOthers 49 = .ok (.ireturn, 1) := by decide +kernel
theorem dX4_replaceTokens_0 : decode cX4_replaceTokens 0 = .ok (.iconst 0, 1) := by decide +kernel
theorem dX4_replaceTokens_1 : decode cX4_replaceTokens 1 = .ok (.istore 4, 2) := by decide +kernel
theorem dX4_replaceTokens_3 : decode cX4_replaceTokens 3 = .ok (.iload_n 1, 1) := by decide +kernel
theorem dX4_replaceTokens_4 : decode cX4_replaceTokens 4 = .ok (.istore 5, 2) := by decide +kernel
theorem dX4_replaceTokens_6 : decode cX4_replaceTokens 6 = .ok (.iload 5, 2) := by decide +kernel
theorem dX4_replaceTokens_8 : decode cX4_replaceTokens 8 = .ok (.iload_n 1, 1) := by decide +kernel
theorem dX4_replaceTokens_9 : decode cX4_replaceTokens 9 = .ok (.iload_n 2, 1) := by decide +kernel
theorem dX4_replaceTokens_10 : decode cX4_replaceTokens 10 = .ok (.iadd, 1) := by decide +kernel
theorem dX4_replaceTokens_11 : decode cX4_replaceTokens 11 = .ok (.if_icmp .ge 46, 3) := by decide +kernel
theorem dX4_replaceTokens_14 : decode cX4_replaceTokens 14 = .ok (.aload_n 0, 1) := by decide +kernel
theorem dX4_replaceTokens_15 : decode cX4_replaceTokens 15 = .ok (.iload 5, 2) := by decide +kernel
theorem dX4_replaceTokens_17 : decode cX4_replaceTokens 17 = .ok (.iaload, 1) := by decide +kernel
theorem dX4_replaceTokens_18 : decode cX4_replaceTokens 18 = .ok (.ifCond .ne 20, 3) := by decide +kernel
theorem dX4_replaceTokens_21 : decode cX4_replaceTokens 21 = .ok (.aload_n 0, 1) := by decide +kernel
theorem dX4_replaceTokens_22 : decode cX4_replaceTokens 22 = .ok (.iload 5, 2) := by decide +kernel
theorem dX4_replaceTokens_24 : decode cX4_replaceTokens 24 = .ok (.aload_n 3, 1) := by decide +kernel
theorem dX4_replaceTokens_25 : decode cX4_replaceTokens 25 = .ok (.getfield 54, 3) := by decide +kernel
theorem dX4_replaceTokens_28 : decode cX4_replaceTokens 28 = .ok (.iload 4, 2) := by decide +kernel
theorem dX4_replaceTokens_30 : decode cX4_replaceTokens 30 = .ok (.iaload, 1) := by decide +kernel
theorem dX4_replaceTokens_31 : decode cX4_replaceTokens 31 = .ok (.iastore, 1) := by decide +kernel
theorem dX4_replaceTokens_32 : decode cX4_replaceTokens 32 = .ok (.iinc 4 1, 3) := by decide +kernel
theorem dX4_replaceTokens_35 : decode cX4_replaceTokens 35 = .ok (.goto 16, 3) := by decide +kernel
theorem dX4_replaceTokens_38 : decode cX4_replaceTokens 38 = .ok (.aload_n 0, 1) := by decide +kernel
theorem dX4_replaceTokens_39 : decode cX4_replaceTokens 39 = .ok (.iload 5, 2) := by decide +kernel
theorem dX4_replaceTokens_41 : decode cX4_replaceTokens 41 = .ok (.aload_n 3, 1) := by decide +kernel
theorem dX4_replaceTokens_42 : decode cX4_replaceTokens 42 = .ok (.getfield 44, 3) := by decide +kernel
theorem dX4_replaceTokens_45 : decode cX4_replaceTokens 45 = .ok (.aload_n 0, 1) := by decide +kernel
theorem dX4_replaceTokens_46 : decode cX4_replaceTokens 46 = .ok (.iload 5, 2) := by decide +kernel
theorem dX4_replaceTokens_48 : decode cX4_replaceTokens 48 = .ok (.iaload, 1) := by decide +kernel
theorem dX4_replaceTokens_49 : decode cX4_replaceTokens 49 = .ok (.iaload, 1) := by decide +kernel
theorem dX4_replaceTokens_50 : decode cX4_replaceTokens 50 = .ok (.iastore, 1) := by decide +kernel
theorem dX4_replaceTokens_51 : decode cX4_replaceTokens 51 = .ok (.iinc 5 1, 3) := by decide +kernel
theorem dX4_replaceTokens_54 : decode cX4_replaceTokens 54 = .ok (.goto (-48), 3) := by decide +kernel
theorem dX4_replaceTokens_57 : decode cX4_replaceTokens 57 = .ok (.return_, 1) := by decide +kernel
theorem dX5_init_0 : decode cX5_init 0 = .ok (.aload_n 0, 1) := by decide +kernel
theorem dX5_init_1 : decode cX5_init 1 = .ok (.iload_n 1, 1) := by decide +kernel
theorem dX5_init_2 : decode cX5_init 2 = .ok (.invokespecial 1, 3) := by decide +kernel
theorem dX5_init_5 : decode cX5_init 5 = .ok (.aload_n 0, 1) := by decide +kernel
theorem dX5_init_6 : decode cX5_init 6 = .ok (.iload_n 2, 1) := by decide +kernel
theorem dX5_init_7 : decode cX5_init 7 = .ok (.putfield 7, 3) := by decide +kernel
theorem dX5_init_10 : decode cX5_init 10 = .ok (.aload_n 0, 1) := by decide +kernel
theorem dX5_init_11 : decode cX5_init 11 = .ok (.aload_n 3, 1) := by decide +kernel
theorem dX5_init_12 : decode cX5_init 12 = .ok (.putfield 13, 3) := by decide +kernel
theorem dX5_init_15 : decode cX5_init 15 = .ok (.aload_n 0, 1) := by decide +kernel
theorem dX5_init_16 : decode cX5_init 16 = .ok (.aload 4, 2) := by decide +kernel
theorem dX5_init_18 : decode cX5_init 18 = .ok (.putfield 17, 3) := by decide +kernel
theorem dX5_init_21 : decode cX5_init 21 = .ok (.return_, 1) := by decide +kernel
theorem dX5_write_0 : decode cX5_write 0 = .ok (.aload_n 0, 1) := by decide +kernel
theorem dX5_write_1 : decode cX5_write 1 = .ok (.getfield 7, 3) := by decide +kernel
theorem dX5_write_4 : decode cX5_write 4 = .ok (.iload 4, 2) := by decide +kernel
theorem dX5_write_6 : decode cX5_write 6 = .ok (.invokestatic 20, 3) := by decide +kernel
theorem dX5_write_9 : decode cX5_write 9 = .ok (.istore 5, 2) := by decide +kernel
theorem dX5_write_11 : decode cX5_write 11 = .ok (.aload_n 0, 1) := by decide +kernel
theorem dX5_write_12 : decode cX5_write 12 = .ok (.getfield 13, 3) := by decide +kernel
theorem dX5_write_15 : decode cX5_write 15 = .ok (.aload_n 1, 1) := by decide +kernel
theorem dX5_write_16 : decode cX5_write 16 = .ok (.aload_n 2, 1) := by decide +kernel
theorem dX5_write_17 : decode cX5_write 17 = .ok (.iload_n 3, 1) := by decide +kernel
theorem dX5_write_18 : decode cX5_write 18 = .ok (.iload 5, 2) := by decide +kernel
theorem dX5_write_20 : decode cX5_write 20 = .ok (.invokevirtual 26, 3) := by decide +kernel
theorem dX5_write_23 : decode cX5_write 23 = .ok (.ifCond .eq 28, 3) := by decide +kernel
theorem dX5_write_26 : decode cX5_write 26 = .ok (.aload_n 0, 1) := by decide +kernel
theorem dX5_write_27 : decode cX5_write 27 = .ok (.getfield 17, 3) := by decide +kernel
theorem dX5_write_30 : decode cX5_write 30 = .ok (.aload_n 1, 1) := by decide +kernel
theorem dX5_write_31 : decode cX5_write 31 = .ok (.aload_n 2, 1) := by decide +kernel
theorem dX5_write_32 : decode cX5_write 32 = .ok (.iload_n 3, 1) := by decide +kernel
theorem dX5_write_33 : decode cX5_write 33 = .ok (.iload 5, 2) := by decide +kernel
theorem dX5_write_35 : decode cX5_write 35 = .ok (.iadd, 1) := by decide +kernel
theorem dX5_write_36 : decode cX5_write 36 = .ok (.iload 4, 2) := by decide +kernel
theorem dX5_write_38 : decode cX5_write 38 = .ok (.iload 5, 2) := by decide +kernel
theorem dX5_write_40 : decode cX5_write 40 = .ok (.isub, 1) := by decide +kernel
theorem dX5_write_41 : decode cX5_write 41 = .ok (.invokevirtual 26, 3) := by decide +kernel
theorem dX5_write_44 : decode cX5_write 44 = .ok (.ifCond .eq 7, 3) := by decide +kernel
theorem dX5_write_47 : decode cX5_write 47 = .ok (.iconst 1, 1) := by decide +kernel
theorem dX5_write_48 : decode cX5_write 48 = .ok (.goto 4, 3) := by decide +kernel
theorem dX5_write_51 : decode cX5_write 51 = .ok (.iconst 0, 1) := by decide +kernel
theorem dX5_write_52 : decode cX5_write 52 = .ok (.ireturn, 1) := by decide +kernel
theorem dX5_read_0 : decode cX5_read 0 = .ok (.aload_n 0, 1) := by decide +kernel
theorem dX5_read_1 : decode cX5_read 1 = .ok (.getfield 7, 3) := by decide +kernel
theorem dX5_read_4 : decode cX5_read 4 = .ok (.iload 4, 2) := by decide +kernel
theorem dX5_read_6 : decode cX5_read 6 = .ok (.invokestatic 20, 3) := by decide +kernel
theorem dX5_read_9 : decode cX5_read 9 = .ok (.istore 5, 2) := by decide +kernel
theorem dX5_read_11 : decode cX5_read 11 = .ok (.aload_n 0, 1) := by decide +kernel
theorem dX5_read_12 : decode cX5_read 12 = .ok (.getfield 13, 3) := by decide +kernel
theorem dX5_read_15 : decode cX5_read 15 = .ok (.aload_n 1, 1) := by decide +kernel
theorem dX5_read_16 : decode cX5_read 16 = .ok (.aload_n 2, 1) := by decide +kernel
theorem dX5_read_17 : decode cX5_read 17 = .ok (.iload_n 3, 1) := by decide +kernel
theorem dX5_read_18 : decode cX5_read 18 = .ok (.iload 5, 2) := by decide +kernel
theorem dX5_read_20 : decode cX5_read 20 = .ok (.invokevirtual 30, 3) := by decide +kernel
theorem dX5_read_23 : decode cX5_read 23 = .ok (.ifCond .eq 28, 3) := by decide +kernel
theorem dX5_read_26 : decode cX5_read 26 = .ok (.aload_n 0, 1) := by decide +kernel
theorem dX5_read_27 : decode cX5_read 27 = .ok (.getfield 17, 3) := by decide +kernel
theorem dX5_read_30 : decode cX5_read 30 = .ok (.aload_n 1, 1) := by decide +kernel
theorem dX5_read_31 : decode cX5_read 31 = .ok (.aload_n 2, 1) := by decide +kernel
theorem dX5_read_32 : decode cX5_read 32 = .ok (.iload_n 3, 1) := by decide +kernel
theorem dX5_read_33 : decode cX5_read 33 = .ok (.iload 5, 2) := by decide +kernel
theorem dX5_read_35 : decode cX5_read 35 = .ok (.iadd, 1) := by decide +kernel
theorem dX5_read_36 : decode cX5_read 36 = .ok (.iload 4, 2) := by decide +kernel
theorem dX5_read_38 : decode cX5_read 38 = .ok (.iload 5, 2) := by decide +kernel
theorem dX5_read_40 : decode cX5_read 40 = .ok (.isub, 1) := by decide +kernel
theorem dX5_read_41 : decode cX5_read 41 = .ok (.invokevirtual 30, 3) := by decide +kernel
theorem dX5_read_44 : decode cX5_read 44 = .ok (.ifCond .eq 7, 3) := by decide +kernel
theorem dX5_read_47 : decode cX5_read 47 = .ok (.iconst 1, 1) := by decide +kernel
theorem dX5_read_48 : decode cX5_read 48 = .ok (.goto 4, 3) := by decide +kernel
theorem dX5_read_51 : decode cX5_read 51 = .ok (.iconst 0, 1) := by decide +kernel
theorem dX5_read_52 : decode cX5_read 52 = .ok (.ireturn, 1) := by decide +kernel
theorem dX6_init_0 : decode cX6_init 0 = .ok (.aload_n 0, 1) := by decide +kernel
theorem dX6_init_1 : decode cX6_init 1 = .ok (.invokespecial 3, 3) := by decide +kernel
theorem dX6_init_4 : decode cX6_init 4 = .ok (.aload_n 0, 1) := by decide +kernel
theorem dX6_init_5 : decode cX6_init 5 = .ok (.sipush 401, 3) := by decide +kernel
theorem dX6_init_8 : decode cX6_init 8 = .ok (.newarray .int, 2) := by decide +kernel
theorem dX6_init_10 : decode cX6_init 10 = .ok (.putfield 9, 3) := by decide +kernel
theorem dX6_init_13 : decode cX6_init 13 = .ok (.aload_n 0, 1) := by decide +kernel
theorem dX6_init_14 : decode cX6_init 14 = .ok (.sipush 401, 3) := by decide +kernel
theorem dX6_init_17 : decode cX6_init 17 = .ok (.newarray .int, 2) := by decide +kernel
theorem dX6_init_19 : decode cX6_init 19 = .ok (.putfield 15, 3) := by decide +kernel
theorem dX6_init_22 : decode cX6_init 22 = .ok (.aload_n 0, 1) := by decide +kernel
theorem dX6_init_23 : decode cX6_init 23 = .ok (.iconst 0, 1) := by decide +kernel
theorem dX6_init_24 : decode cX6_init 24 = .ok (.putfield 18, 3) := by decide +kernel
theorem dX6_init_27 : decode cX6_init 27 = .ok (.aload_n 0, 1) := by decide +kernel
theorem dX6_init_28 : decode cX6_init 28 = .ok (.iconst (-1), 1) := by decide +kernel
theorem dX6_init_29 : decode cX6_init 29 = .ok (.putfield 22, 3) := by decide +kernel
theorem dX6_init_32 : decode cX6_init 32 = .ok (.aload_n 0, 1) := by decide +kernel
theorem dX6_init_33 : decode cX6_init 33 = .ok (.iconst (-1), 1) := by decide +kernel
theorem dX6_init_34 : decode cX6_init 34 = .ok (.putfield 25, 3) := by decide +kernel
theorem dX6_init_37 : decode cX6_init 37 = .ok (.aload_n 0, 1) := by decide +kernel
theorem dX6_init_38 : decode cX6_init 38 = .ok (.iconst (-1), 1) := by decide +kernel
theorem dX6_init_39 : decode cX6_init 39 = .ok (.putfield 28, 3) := by decide +kernel
theorem dX6_init_42 : decode cX6_init 42 = .ok (.return_, 1) := by decide +kernel
theorem dX6_startRow_0 : decode cX6_startRow 0 = .ok (.aload_n 0, 1) := by decide +kernel
theorem dX6_startRow_1 : decode cX6_startRow 1 = .ok (.iload_n 1, 1) := by decide +kernel
theorem dX6_startRow_2 : decode cX6_startRow 2 = .ok (.putfield 18, 3) := by decide +kernel
theorem dX6_startRow_5 : decode cX6_startRow 5 = .ok (.iconst 0, 1) := by decide +kernel
theorem dX6_startRow_6 : decode cX6_startRow 6 = .ok (.istore_n 2, 1) := by decide +kernel
theorem dX6_startRow_7 : decode cX6_startRow 7 = .ok (.iload_n 2, 1) := by decide +kernel
theorem dX6_startRow_8 : decode cX6_startRow 8 = .ok (.aload_n 0, 1) := by decide +kernel
theorem dX6_startRow_9 : decode cX6_startRow 9 = .ok (.getfield 18, 3) := by decide +kernel
theorem dX6_startRow_12 : decode cX6_startRow 12 = .ok (.if_icmp .gt 25, 3) := by decide +kernel
theorem dX6_startRow_15 : decode cX6_startRow 15 = .ok (.aload_n 0, 1) := by decide +kernel
theorem dX6_startRow_16 : decode cX6_startRow 16 = .ok (.getfield 9, 3) := by decide +kernel
theorem dX6_startRow_19 : decode cX6_startRow 19 = .ok (.iload_n 2, 1) := by decide +kernel
theorem dX6_startRow_20 : decode cX6_startRow 20 = .ok (.ldc 31, 2) := by decide +kernel
theorem dX6_startRow_22 : decode cX6_startRow 22 = .ok (.iastore, 1) := by decide +kernel
theorem dX6_startRow_23 : decode cX6_startRow 23 = .ok (.aload_n 0, 1) := by decide +kernel
theorem dX6_startRow_24 : decode cX6_startRow 24 = .ok (.getfield 15, 3) := by decide +kernel
theorem dX6_startRow_27 : decode cX6_startRow 27 = .ok (.iload_n 2, 1) := by decide +kernel
theorem dX6_startRow_28 : decode cX6_startRow 28 = .ok (.ldc 31, 2) := by decide +kernel
theorem dX6_startRow_30 : decode cX6_startRow 30 = .ok (.iastore, 1) := by decide +kernel
theorem dX6_startRow_31 : decode cX6_startRow 31 = .ok (.iinc 2 1, 3) := by decide +kernel
theorem dX6_startRow_34 : decode cX6_startRow 34 = .ok (.goto (-27), 3) := by decide +kernel
theorem dX6_startRow_37 : decode cX6_startRow 37 = .ok (.aload_n 0, 1) := by decide +kernel
theorem dX6_startRow_38 : decode cX6_startRow 38 = .ok (.iconst (-1), 1) := by decide +kernel
theorem dX6_startRow_39 : decode cX6_startRow 39 = .ok (.putfield 22, 3) := by decide +kernel
theorem dX6_startRow_42 : decode cX6_startRow 42 = .ok (.aload_n 0, 1) := by decide +kernel
theorem dX6_startRow_43 : decode cX6_startRow 43 = .ok (.iconst (-1), 1) := by decide +kernel
theorem dX6_startRow_44 : decode cX6_startRow 44 = .ok (.putfield 25, 3) := by decide +kernel
theorem dX6_startRow_47 : decode cX6_startRow 47 = .ok (.aload_n 0, 1) := by decide +kernel
theorem dX6_startRow_48 : decode cX6_startRow 48 = .ok (.iconst (-1), 1) := by decide +kernel
theorem dX6_startRow_49 : decode cX6_startRow 49 = .ok (.putfield 28, 3) := by decide +kernel
theorem dX6_startRow_52 : decode cX6_startRow 52 = .ok (.return_, 1) := by decide +kernel
theorem dX6_weighHeads_0 : decode cX6_weighHeads 0 = .ok (.iconst 0, 1) := by decide +kernel
theorem dX6_weighHeads_1 : decode cX6_weighHeads 1 = .ok (.istore 4, 2) := by decide +kernel
theorem dX6_weighHeads_3 : decode cX6_weighHeads 3 = .ok (.iconst 0, 1) := by decide +kernel
theorem dX6_weighHeads_4 : decode cX6_weighHeads 4 = .ok (.istore 5, 2) := by decide +kernel
theorem dX6_weighHeads_6 : decode cX6_weighHeads 6 = .ok (.aload_n 0, 1) := by decide +kernel
theorem dX6_weighHeads_7 : decode cX6_weighHeads 7 = .ok (.getfield 9, 3) := by decide +kernel
theorem dX6_weighHeads_10 : decode cX6_weighHeads 10 = .ok (.iconst 0, 1) := by decide +kernel
theorem dX6_weighHeads_11 : decode cX6_weighHeads 11 = .ok (.iload 4, 2) := by decide +kernel
theorem dX6_weighHeads_13 : decode cX6_weighHeads 13 = .ok (.iload_n 2, 1) := by decide +kernel
theorem dX6_weighHeads_14 : decode cX6_weighHeads 14 = .ok (.invokestatic 32, 3) := by decide +kernel
theorem dX6_weighHeads_17 : decode cX6_weighHeads 17 = .ok (.iconst 1, 1) := by decide +kernel
theorem dX6_weighHeads_18 : decode cX6_weighHeads 18 = .ok (.istore 6, 2) := by decide +kernel
theorem dX6_weighHeads_20 : decode cX6_weighHeads 20 = .ok (.iload 6, 2) := by decide +kernel
theorem dX6_weighHeads_22 : decode cX6_weighHeads 22 = .ok (.aload_n 0, 1) := by decide +kernel
theorem dX6_weighHeads_23 : decode cX6_weighHeads 23 = .ok (.getfield 18, 3) := by decide +kernel
theorem dX6_weighHeads_26 : decode cX6_weighHeads 26 = .ok (.if_icmp .gt 54, 3) := by decide +kernel
theorem dX6_weighHeads_29 : decode cX6_weighHeads 29 = .ok (.iload 4, 2) := by decide +kernel
theorem dX6_weighHeads_31 : decode cX6_weighHeads 31 = .ok (.iconst (-1), 1) := by decide +kernel
theorem dX6_weighHeads_32 : decode cX6_weighHeads 32 = .ok (.if_icmp .eq 48, 3) := by decide +kernel
theorem dX6_weighHeads_35 : decode cX6_weighHeads 35 = .ok (.iload 4, 2) := by decide +kernel
theorem dX6_weighHeads_37 : decode cX6_weighHeads 37 = .ok (.aload_n 1, 1) := by decide +kernel
theorem dX6_weighHeads_38 : decode cX6_weighHeads 38 = .ok (.aload_n 3, 1) := by decide +kernel
theorem dX6_weighHeads_39 : decode cX6_weighHeads 39 = .ok (.iload 6, 2) := by decide +kernel
theorem dX6_weighHeads_41 : decode cX6_weighHeads 41 = .ok (.iconst 1, 1) := by decide +kernel
theorem dX6_weighHeads_42 : decode cX6_weighHeads 42 = .ok (.isub, 1) := by decide +kernel
theorem dX6_weighHeads_43 : decode cX6_weighHeads 43 = .ok (.iaload, 1) := by decide +kernel
theorem dX6_weighHeads_44 : decode cX6_weighHeads 44 = .ok (.iload 5, 2) := by decide +kernel
theorem dX6_weighHeads_46 : decode cX6_weighHeads 46 = .ok (.invokevirtual 36, 3) := by decide +kernel
theorem dX6_weighHeads_49 : decode cX6_weighHeads 49 = .ok (.invokestatic 42, 3) := by decide +kernel
theorem dX6_weighHeads_52 : decode cX6_weighHeads 52 = .ok (.istore 4, 2) := by decide +kernel
theorem dX6_weighHeads_54 : decode cX6_weighHeads 54 = .ok (.aload_n 3, 1) := by decide +kernel
theorem dX6_weighHeads_55 : decode cX6_weighHeads 55 = .ok (.iload 6, 2) := by decide +kernel
theorem dX6_weighHeads_57 : decode cX6_weighHeads 57 = .ok (.iconst 1, 1) := by decide +kernel
theorem dX6_weighHeads_58 : decode cX6_weighHeads 58 = .ok (.isub, 1) := by decide +kernel
theorem dX6_weighHeads_59 : decode cX6_weighHeads 59 = .ok (.iaload, 1) := by decide +kernel
theorem dX6_weighHeads_60 : decode cX6_weighHeads 60 = .ok (.istore 5, 2) := by decide +kernel
theorem dX6_weighHeads_62 : decode cX6_weighHeads 62 = .ok (.aload_n 0, 1) := by decide +kernel
theorem dX6_weighHeads_63 : decode cX6_weighHeads 63 = .ok (.getfield 9, 3) := by decide +kernel
theorem dX6_weighHeads_66 : decode cX6_weighHeads 66 = .ok (.iload 6, 2) := by decide +kernel
theorem dX6_weighHeads_68 : decode cX6_weighHeads 68 = .ok (.iload 4, 2) := by decide +kernel
theorem dX6_weighHeads_70 : decode cX6_weighHeads 70 = .ok (.iload_n 2, 1) := by decide +kernel
theorem dX6_weighHeads_71 : decode cX6_weighHeads 71 = .ok (.invokestatic 32, 3) := by decide +kernel
theorem dX6_weighHeads_74 : decode cX6_weighHeads 74 = .ok (.iinc 6 1, 3) := by decide +kernel
theorem dX6_weighHeads_77 : decode cX6_weighHeads 77 = .ok (.goto (-57), 3) := by decide +kernel
theorem dX6_weighHeads_80 : decode cX6_weighHeads 80 = .ok (.return_, 1) := by decide +kernel
theorem dX6_weighTails_0 : decode cX6_weighTails 0 = .ok (.iconst 0, 1) := by decide +kernel
theorem dX6_weighTails_1 : decode cX6_weighTails 1 = .ok (.istore 4, 2) := by decide +kernel
theorem dX6_weighTails_3 : decode cX6_weighTails 3 = .ok (.aload_n 0, 1) := by decide +kernel
theorem dX6_weighTails_4 : decode cX6_weighTails 4 = .ok (.getfield 15, 3) := by decide +kernel
theorem dX6_weighTails_7 : decode cX6_weighTails 7 = .ok (.aload_n 0, 1) := by decide +kernel
theorem dX6_weighTails_8 : decode cX6_weighTails 8 = .ok (.getfield 18, 3) := by decide +kernel
theorem dX6_weighTails_11 : decode cX6_weighTails 11 = .ok (.iload 4, 2) := by decide +kernel
theorem dX6_weighTails_13 : decode cX6_weighTails 13 = .ok (.iload_n 2, 1) := by decide +kernel
theorem dX6_weighTails_14 : decode cX6_weighTails 14 = .ok (.invokestatic 32, 3) := by decide +kernel
theorem dX6_weighTails_17 : decode cX6_weighTails 17 = .ok (.aload_n 0, 1) := by decide +kernel
theorem dX6_weighTails_18 : decode cX6_weighTails 18 = .ok (.getfield 18, 3) := by decide +kernel
theorem dX6_weighTails_21 : decode cX6_weighTails 21 = .ok (.iconst 1, 1) := by decide +kernel
theorem dX6_weighTails_22 : decode cX6_weighTails 22 = .ok (.isub, 1) := by decide +kernel
theorem dX6_weighTails_23 : decode cX6_weighTails 23 = .ok (.istore 5, 2) := by decide +kernel
theorem dX6_weighTails_25 : decode cX6_weighTails 25 = .ok (.iload 5, 2) := by decide +kernel
theorem dX6_weighTails_27 : decode cX6_weighTails 27 = .ok (.ifCond .lt 65, 3) := by decide +kernel
theorem dX6_weighTails_30 : decode cX6_weighTails 30 = .ok (.iload 4, 2) := by decide +kernel
theorem dX6_weighTails_32 : decode cX6_weighTails 32 = .ok (.iconst (-1), 1) := by decide +kernel
theorem dX6_weighTails_33 : decode cX6_weighTails 33 = .ok (.if_icmp .eq 59, 3) := by decide +kernel
theorem dX6_weighTails_36 : decode cX6_weighTails 36 = .ok (.aload_n 0, 1) := by decide +kernel
theorem dX6_weighTails_37 : decode cX6_weighTails 37 = .ok (.getfield 15, 3) := by decide +kernel
theorem dX6_weighTails_40 : decode cX6_weighTails 40 = .ok (.iload 5, 2) := by decide +kernel
theorem dX6_weighTails_42 : decode cX6_weighTails 42 = .ok (.iload 4, 2) := by decide +kernel
theorem dX6_weighTails_44 : decode cX6_weighTails 44 = .ok (.aload_n 1, 1) := by decide +kernel
theorem dX6_weighTails_45 : decode cX6_weighTails 45 = .ok (.aload_n 3, 1) := by decide +kernel
theorem dX6_weighTails_46 : decode cX6_weighTails 46 = .ok (.iload 5, 2) := by decide +kernel
theorem dX6_weighTails_48 : decode cX6_weighTails 48 = .ok (.iaload, 1) := by decide +kernel
theorem dX6_weighTails_49 : decode cX6_weighTails 49 = .ok (.iconst 0, 1) := by decide +kernel
theorem dX6_weighTails_50 : decode cX6_weighTails 50 = .ok (.invokevirtual 36, 3) := by decide +kernel
theorem dX6_weighTails_53 : decode cX6_weighTails 53 = .ok (.invokestatic 42, 3) := by decide +kernel
theorem dX6_weighTails_56 : decode cX6_weighTails 56 = .ok (.iload_n 2, 1) := by decide +kernel
theorem dX6_weighTails_57 : decode cX6_weighTails 57 = .ok (.invokestatic 32, 3) := by decide +kernel
theorem dX6_weighTails_60 : decode cX6_weighTails 60 = .ok (.iload 5, 2) := by decide +kernel
theorem dX6_weighTails_62 : decode cX6_weighTails 62 = .ok (.ifCond .le 24, 3) := by decide +kernel
theorem dX6_weighTails_65 : decode cX6_weighTails 65 = .ok (.iload 4, 2) := by decide +kernel
theorem dX6_weighTails_67 : decode cX6_weighTails 67 = .ok (.aload_n 1, 1) := by decide +kernel
theorem dX6_weighTails_68 : decode cX6_weighTails 68 = .ok (.aload_n 3, 1) := by decide +kernel
theorem dX6_weighTails_69 : decode cX6_weighTails 69 = .ok (.iload 5, 2) := by decide +kernel
theorem dX6_weighTails_71 : decode cX6_weighTails 71 = .ok (.iaload, 1) := by decide +kernel
theorem dX6_weighTails_72 : decode cX6_weighTails 72 = .ok (.aload_n 3, 1) := by decide +kernel
theorem dX6_weighTails_73 : decode cX6_weighTails 73 = .ok (.iload 5, 2) := by decide +kernel
theorem dX6_weighTails_75 : decode cX6_weighTails 75 = .ok (.iconst 1, 1) := by decide +kernel
theorem dX6_weighTails_76 : decode cX6_weighTails 76 = .ok (.isub, 1) := by decide +kernel
theorem dX6_weighTails_77 : decode cX6_weighTails 77 = .ok (.iaload, 1) := by decide +kernel
theorem dX6_weighTails_78 : decode cX6_weighTails 78 = .ok (.invokevirtual 36, 3) := by decide +kernel
theorem dX6_weighTails_81 : decode cX6_weighTails 81 = .ok (.invokestatic 42, 3) := by decide +kernel
theorem dX6_weighTails_84 : decode cX6_weighTails 84 = .ok (.istore 4, 2) := by decide +kernel
theorem dX6_weighTails_86 : decode cX6_weighTails 86 = .ok (.iinc 5 (-1), 3) := by decide +kernel
theorem dX6_weighTails_89 : decode cX6_weighTails 89 = .ok (.goto (-64), 3) := by decide +kernel
theorem dX6_weighTails_92 : decode cX6_weighTails 92 = .ok (.return_, 1) := by decide +kernel
theorem dX6_choose_0 : decode cX6_choose 0 = .ok (.iconst (-1), 1) := by decide +kernel
theorem dX6_choose_1 : decode cX6_choose 1 = .ok (.istore_n 1, 1) := by decide +kernel
theorem dX6_choose_2 : decode cX6_choose 2 = .ok (.iconst 0, 1) := by decide +kernel
theorem dX6_choose_3 : decode cX6_choose 3 = .ok (.istore_n 2, 1) := by decide +kernel
theorem dX6_choose_4 : decode cX6_choose 4 = .ok (.iload_n 2, 1) := by decide +kernel
theorem dX6_choose_5 : decode cX6_choose 5 = .ok (.aload_n 0, 1) := by decide +kernel
theorem dX6_choose_6 : decode cX6_choose 6 = .ok (.getfield 18, 3) := by decide +kernel
theorem dX6_choose_9 : decode cX6_choose 9 = .ok (.if_icmp .gt 78, 3) := by decide +kernel
theorem dX6_choose_12 : decode cX6_choose 12 = .ok (.aload_n 0, 1) := by decide +kernel
theorem dX6_choose_13 : decode cX6_choose 13 = .ok (.getfield 9, 3) := by decide +kernel
theorem dX6_choose_16 : decode cX6_choose 16 = .ok (.iload_n 2, 1) := by decide +kernel
theorem dX6_choose_17 : decode cX6_choose 17 = .ok (.iaload, 1) := by decide +kernel
theorem dX6_choose_18 : decode cX6_choose 18 = .ok (.bipush 40, 2) := by decide +kernel
theorem dX6_choose_20 : decode cX6_choose 20 = .ok (.idiv, 1) := by decide +kernel
theorem dX6_choose_21 : decode cX6_choose 21 = .ok (.aload_n 0, 1) := by decide +kernel
theorem dX6_choose_22 : decode cX6_choose 22 = .ok (.getfield 15, 3) := by decide +kernel
theorem dX6_choose_25 : decode cX6_choose 25 = .ok (.iload_n 2, 1) := by decide +kernel
theorem dX6_choose_26 : decode cX6_choose 26 = .ok (.iaload, 1) := by decide +kernel
theorem dX6_choose_27 : decode cX6_choose 27 = .ok (.bipush 40, 2) := by decide +kernel
theorem dX6_choose_29 : decode cX6_choose 29 = .ok (.idiv, 1) := by decide +kernel
theorem dX6_choose_30 : decode cX6_choose 30 = .ok (.iadd, 1) := by decide +kernel
theorem dX6_choose_31 : decode cX6_choose 31 = .ok (.istore_n 3, 1) := by decide +kernel
theorem dX6_choose_32 : decode cX6_choose 32 = .ok (.iload_n 3, 1) := by decide +kernel
theorem dX6_choose_33 : decode cX6_choose 33 = .ok (.ldc 45, 2) := by decide +kernel
theorem dX6_choose_35 : decode cX6_choose 35 = .ok (.if_icmp .ge 46, 3) := by decide +kernel
theorem dX6_choose_38 : decode cX6_choose 38 = .ok (.iload_n 1, 1) := by decide +kernel
theorem dX6_choose_39 : decode cX6_choose 39 = .ok (.iconst (-1), 1) := by decide +kernel
theorem dX6_choose_40 : decode cX6_choose 40 = .ok (.if_icmp .eq 8, 3) := by decide +kernel
theorem dX6_choose_43 : decode cX6_choose 43 = .ok (.iload_n 3, 1) := by decide +kernel
theorem dX6_choose_44 : decode cX6_choose 44 = .ok (.iload_n 1, 1) := by decide +kernel
theorem dX6_choose_45 : decode cX6_choose 45 = .ok (.if_icmp .ge 36, 3) := by decide +kernel
theorem dX6_choose_48 : decode cX6_choose 48 = .ok (.iload_n 3, 1) := by decide +kernel
theorem dX6_choose_49 : decode cX6_choose 49 = .ok (.istore_n 1, 1) := by decide +kernel
theorem dX6_choose_50 : decode cX6_choose 50 = .ok (.aload_n 0, 1) := by decide +kernel
theorem dX6_choose_51 : decode cX6_choose 51 = .ok (.iload_n 2, 1) := by decide +kernel
theorem dX6_choose_52 : decode cX6_choose 52 = .ok (.putfield 22, 3) := by decide +kernel
theorem dX6_choose_55 : decode cX6_choose 55 = .ok (.aload_n 0, 1) := by decide +kernel
theorem dX6_choose_56 : decode cX6_choose 56 = .ok (.aload_n 0, 1) := by decide +kernel
theorem dX6_choose_57 : decode cX6_choose 57 = .ok (.getfield 9, 3) := by decide +kernel
theorem dX6_choose_60 : decode cX6_choose 60 = .ok (.iload_n 2, 1) := by decide +kernel
theorem dX6_choose_61 : decode cX6_choose 61 = .ok (.iaload, 1) := by decide +kernel
theorem dX6_choose_62 : decode cX6_choose 62 = .ok (.bipush 40, 2) := by decide +kernel
theorem dX6_choose_64 : decode cX6_choose 64 = .ok (.irem, 1) := by decide +kernel
theorem dX6_choose_65 : decode cX6_choose 65 = .ok (.putfield 25, 3) := by decide +kernel
theorem dX6_choose_68 : decode cX6_choose 68 = .ok (.aload_n 0, 1) := by decide +kernel
theorem dX6_choose_69 : decode cX6_choose 69 = .ok (.aload_n 0, 1) := by decide +kernel
theorem dX6_choose_70 : decode cX6_choose 70 = .ok (.getfield 15, 3) := by decide +kernel
theorem dX6_choose_73 : decode cX6_choose 73 = .ok (.iload_n 2, 1) := by decide +kernel
theorem dX6_choose_74 : decode cX6_choose 74 = .ok (.iaload, 1) := by decide +kernel
theorem dX6_choose_75 : decode cX6_choose 75 = .ok (.bipush 40, 2) := by decide +kernel
theorem dX6_choose_77 : decode cX6_choose 77 = .ok (.irem, 1) := by decide +kernel
theorem dX6_choose_78 : decode cX6_choose 78 = .ok (.putfield 28, 3) := by decide +kernel
theorem dX6_choose_81 : decode cX6_choose 81 = .ok (.iinc 2 1, 3) := by decide +kernel
theorem dX6_choose_84 : decode cX6_choose 84 = .ok (.goto (-80), 3) := by decide +kernel
theorem dX6_choose_87 : decode cX6_choose 87 = .ok (.iload_n 1, 1) := by decide +kernel
theorem dX6_choose_88 : decode cX6_choose 88 = .ok (.ireturn, 1) := by decide +kernel
theorem dX6_offer_0 : decode cX6_offer 0 = .ok (.iload_n 2, 1) := by decide +kernel
theorem dX6_offer_1 : decode cX6_offer 1 = .ok (.iconst (-1), 1) := by decide +kernel
theorem dX6_offer_2 : decode cX6_offer 2 = .ok (.if_icmp .eq 18, 3) := by decide +kernel
theorem dX6_offer_5 : decode cX6_offer 5 = .ok (.aload_n 0, 1) := by decide +kernel
end
section
theorem dX6_offer_6 : decode cX6_offer 6 = .ok (.iload_n 1, 1) := by decide +kernel
theorem dX6_offer_7 : decode cX6_offer 7 = .ok (.aload_n 0, 1) := by decide +kernel
theorem dX6_offer_8 : decode cX6_offer 8 = .ok (.iload_n 1, 1) := by decide +kernel
theorem dX6_offer_9 : decode cX6_offer 9 = .ok (.iaload, 1) := by decide +kernel
theorem dX6_offer_10 : decode cX6_offer 10 = .ok (.iload_n 2, 1) := by decide +kernel
theorem dX6_offer_11 : decode cX6_offer 11 = .ok (.bipush 40, 2) := by decide +kernel
theorem dX6_offer_13 : decode cX6_offer 13 = .ok (.imul, 1) := by decide +kernel
theorem dX6_offer_14 : decode cX6_offer 14 = .ok (.iload_n 3, 1) := by decide +kernel
theorem dX6_offer_15 : decode cX6_offer 15 = .ok (.iadd, 1) := by decide +kernel
theorem dX6_offer_16 : decode cX6_offer 16 = .ok (.invokestatic 46, 3) := by decide +kernel
theorem dX6_offer_19 : decode cX6_offer 19 = .ok (.iastore, 1) := by decide +kernel
theorem dX6_offer_20 : decode cX6_offer 20 = .ok (.return_, 1) := by decide +kernel
theorem dX6_sum_0 : decode cX6_sum 0 = .ok (.iload_n 0, 1) := by decide +kernel
theorem dX6_sum_1 : decode cX6_sum 1 = .ok (.iconst (-1), 1) := by decide +kernel
theorem dX6_sum_2 : decode cX6_sum 2 = .ok (.if_icmp .eq 8, 3) := by decide +kernel
theorem dX6_sum_5 : decode cX6_sum 5 = .ok (.iload_n 1, 1) := by decide +kernel
theorem dX6_sum_6 : decode cX6_sum 6 = .ok (.iconst (-1), 1) := by decide +kernel
theorem dX6_sum_7 : decode cX6_sum 7 = .ok (.if_icmp .ne 7, 3) := by decide +kernel
theorem dX6_sum_10 : decode cX6_sum 10 = .ok (.iconst (-1), 1) := by decide +kernel
theorem dX6_sum_11 : decode cX6_sum 11 = .ok (.goto 6, 3) := by decide +kernel
theorem dX6_sum_14 : decode cX6_sum 14 = .ok (.iload_n 0, 1) := by decide +kernel
theorem dX6_sum_15 : decode cX6_sum 15 = .ok (.iload_n 1, 1) := by decide +kernel
theorem dX6_sum_16 : decode cX6_sum 16 = .ok (.iadd, 1) := by decide +kernel
theorem dX6_sum_17 : decode cX6_sum 17 = .ok (.ireturn, 1) := by decide +kernel
theorem dX7_init_0 : decode cX7_init 0 = .ok (.aload_n 0, 1) := by decide +kernel
theorem dX7_init_1 : decode cX7_init 1 = .ok (.invokespecial 3, 3) := by decide +kernel
theorem dX7_init_4 : decode cX7_init 4 = .ok (.aload_n 0, 1) := by decide +kernel
theorem dX7_init_5 : decode cX7_init 5 = .ok (.sipush 8000, 3) := by decide +kernel
theorem dX7_init_8 : decode cX7_init 8 = .ok (.newarray .byte, 2) := by decide +kernel
theorem dX7_init_10 : decode cX7_init 10 = .ok (.putfield 9, 3) := by decide +kernel
theorem dX7_init_13 : decode cX7_init 13 = .ok (.aload_n 0, 1) := by decide +kernel
theorem dX7_init_14 : decode cX7_init 14 = .ok (.iconst 0, 1) := by decide +kernel
theorem dX7_init_15 : decode cX7_init 15 = .ok (.putfield 15, 3) := by decide +kernel
theorem dX7_init_18 : decode cX7_init 18 = .ok (.aload_n 0, 1) := by decide +kernel
theorem dX7_init_19 : decode cX7_init 19 = .ok (.iconst 0, 1) := by decide +kernel
theorem dX7_init_20 : decode cX7_init 20 = .ok (.putfield 19, 3) := by decide +kernel
theorem dX7_init_23 : decode cX7_init 23 = .ok (.aload_n 0, 1) := by decide +kernel
theorem dX7_init_24 : decode cX7_init 24 = .ok (.iconst 0, 1) := by decide +kernel
theorem dX7_init_25 : decode cX7_init 25 = .ok (.putfield 22, 3) := by decide +kernel
theorem dX7_init_28 : decode cX7_init 28 = .ok (.aload_n 0, 1) := by decide +kernel
theorem dX7_init_29 : decode cX7_init 29 = .ok (.iconst 0, 1) := by decide +kernel
theorem dX7_init_30 : decode cX7_init 30 = .ok (.putfield 25, 3) := by decide +kernel
theorem dX7_init_33 : decode cX7_init 33 = .ok (.aload_n 0, 1) := by decide +kernel
theorem dX7_init_34 : decode cX7_init 34 = .ok (.iconst 0, 1) := by decide +kernel
theorem dX7_init_35 : decode cX7_init 35 = .ok (.putfield 28, 3) := by decide +kernel
theorem dX7_init_38 : decode cX7_init 38 = .ok (.aload_n 0, 1) := by decide +kernel
theorem dX7_init_39 : decode cX7_init 39 = .ok (.iconst (-1), 1) := by decide +kernel
theorem dX7_init_40 : decode cX7_init 40 = .ok (.putfield 31, 3) := by decide +kernel
theorem dX7_init_43 : decode cX7_init 43 = .ok (.return_, 1) := by decide +kernel
theorem dX7_byteAt_0 : decode cX7_byteAt 0 = .ok (.iload_n 1, 1) := by decide +kernel
theorem dX7_byteAt_1 : decode cX7_byteAt 1 = .ok (.ifCond .lt 24, 3) := by decide +kernel
theorem dX7_byteAt_4 : decode cX7_byteAt 4 = .ok (.iload_n 1, 1) := by decide +kernel
theorem dX7_byteAt_5 : decode cX7_byteAt 5 = .ok (.aload_n 0, 1) := by decide +kernel
theorem dX7_byteAt_6 : decode cX7_byteAt 6 = .ok (.getfield 15, 3) := by decide +kernel
theorem dX7_byteAt_9 : decode cX7_byteAt 9 = .ok (.if_icmp .ge 16, 3) := by decide +kernel
theorem dX7_byteAt_12 : decode cX7_byteAt 12 = .ok (.aload_n 0, 1) := by decide +kernel
theorem dX7_byteAt_13 : decode cX7_byteAt 13 = .ok (.getfield 9, 3) := by decide +kernel
theorem dX7_byteAt_16 : decode cX7_byteAt 16 = .ok (.iload_n 1, 1) := by decide +kernel
theorem dX7_byteAt_17 : decode cX7_byteAt 17 = .ok (.baload, 1) := by decide +kernel
theorem dX7_byteAt_18 : decode cX7_byteAt 18 = .ok (.sipush 255, 3) := by decide +kernel
theorem dX7_byteAt_21 : decode cX7_byteAt 21 = .ok (.iand, 1) := by decide +kernel
theorem dX7_byteAt_22 : decode cX7_byteAt 22 = .ok (.goto 4, 3) := by decide +kernel
theorem dX7_byteAt_25 : decode cX7_byteAt 25 = .ok (.iconst (-1), 1) := by decide +kernel
theorem dX7_byteAt_26 : decode cX7_byteAt 26 = .ok (.ireturn, 1) := by decide +kernel
theorem dX7_startDraft_0 : decode cX7_startDraft 0 = .ok (.aload_n 0, 1) := by decide +kernel
theorem dX7_startDraft_1 : decode cX7_startDraft 1 = .ok (.iconst 0, 1) := by decide +kernel
theorem dX7_startDraft_2 : decode cX7_startDraft 2 = .ok (.putfield 22, 3) := by decide +kernel
theorem dX7_startDraft_5 : decode cX7_startDraft 5 = .ok (.return_, 1) := by decide +kernel
theorem dX7_draft_0 : decode cX7_draft 0 = .ok (.aload_n 0, 1) := by decide +kernel
theorem dX7_draft_1 : decode cX7_draft 1 = .ok (.getfield 15, 3) := by decide +kernel
theorem dX7_draft_4 : decode cX7_draft 4 = .ok (.aload_n 0, 1) := by decide +kernel
theorem dX7_draft_5 : decode cX7_draft 5 = .ok (.getfield 22, 3) := by decide +kernel
theorem dX7_draft_8 : decode cX7_draft 8 = .ok (.iadd, 1) := by decide +kernel
theorem dX7_draft_9 : decode cX7_draft 9 = .ok (.istore_n 2, 1) := by decide +kernel
theorem dX7_draft_10 : decode cX7_draft 10 = .ok (.iload_n 2, 1) := by decide +kernel
theorem dX7_draft_11 : decode cX7_draft 11 = .ok (.sipush 8000, 3) := by decide +kernel
theorem dX7_draft_14 : decode cX7_draft 14 = .ok (.if_icmp .ge 11, 3) := by decide +kernel
theorem dX7_draft_17 : decode cX7_draft 17 = .ok (.aload_n 0, 1) := by decide +kernel
theorem dX7_draft_18 : decode cX7_draft 18 = .ok (.getfield 9, 3) := by decide +kernel
theorem dX7_draft_21 : decode cX7_draft 21 = .ok (.iload_n 2, 1) := by decide +kernel
theorem dX7_draft_22 : decode cX7_draft 22 = .ok (.iload_n 1, 1) := by decide +kernel
theorem dX7_draft_23 : decode cX7_draft 23 = .ok (.i2b, 1) := by decide +kernel
theorem dX7_draft_24 : decode cX7_draft 24 = .ok (.bastore, 1) := by decide +kernel
theorem dX7_draft_25 : decode cX7_draft 25 = .ok (.aload_n 0, 1) := by decide +kernel
theorem dX7_draft_26 : decode cX7_draft 26 = .ok (.dup, 1) := by decide +kernel
theorem dX7_draft_27 : decode cX7_draft 27 = .ok (.getfield 22, 3) := by decide +kernel
theorem dX7_draft_30 : decode cX7_draft 30 = .ok (.iconst 1, 1) := by decide +kernel
theorem dX7_draft_31 : decode cX7_draft 31 = .ok (.iadd, 1) := by decide +kernel
theorem dX7_draft_32 : decode cX7_draft 32 = .ok (.putfield 22, 3) := by decide +kernel
theorem dX7_draft_35 : decode cX7_draft 35 = .ok (.return_, 1) := by decide +kernel
theorem dX7_keepDraft_0 : decode cX7_keepDraft 0 = .ok (.aload_n 0, 1) := by decide +kernel
theorem dX7_keepDraft_1 : decode cX7_keepDraft 1 = .ok (.aload_n 0, 1) := by decide +kernel
theorem dX7_keepDraft_2 : decode cX7_keepDraft 2 = .ok (.getfield 15, 3) := by decide +kernel
theorem dX7_keepDraft_5 : decode cX7_keepDraft 5 = .ok (.aload_n 0, 1) := by decide +kernel
theorem dX7_keepDraft_6 : decode cX7_keepDraft 6 = .ok (.getfield 22, 3) := by decide +kernel
theorem dX7_keepDraft_9 : decode cX7_keepDraft 9 = .ok (.iadd, 1) := by decide +kernel
theorem dX7_keepDraft_10 : decode cX7_keepDraft 10 = .ok (.sipush 8000, 3) := by decide +kernel
theorem dX7_keepDraft_13 : decode cX7_keepDraft 13 = .ok (.invokestatic 34, 3) := by decide +kernel
theorem dX7_keepDraft_16 : decode cX7_keepDraft 16 = .ok (.putfield 15, 3) := by decide +kernel
theorem dX7_keepDraft_19 : decode cX7_keepDraft 19 = .ok (.aload_n 0, 1) := by decide +kernel
theorem dX7_keepDraft_20 : decode cX7_keepDraft 20 = .ok (.iconst 0, 1) := by decide +kernel
theorem dX7_keepDraft_21 : decode cX7_keepDraft 21 = .ok (.putfield 22, 3) := by decide +kernel
theorem dX7_keepDraft_24 : decode cX7_keepDraft 24 = .ok (.return_, 1) := by decide +kernel
theorem dX7_startReading_0 : decode cX7_startReading 0 = .ok (.aload_n 0, 1) := by decide +kernel
theorem dX7_startReading_1 : decode cX7_startReading 1 = .ok (.aload_n 0, 1) := by decide +kernel
theorem dX7_startReading_2 : decode cX7_startReading 2 = .ok (.getfield 19, 3) := by decide +kernel
theorem dX7_startReading_5 : decode cX7_startReading 5 = .ok (.putfield 25, 3) := by decide +kernel
theorem dX7_startReading_8 : decode cX7_startReading 8 = .ok (.return_, 1) := by decide +kernel
theorem dX7_next_0 : decode cX7_next 0 = .ok (.aload_n 0, 1) := by decide +kernel
theorem dX7_next_1 : decode cX7_next 1 = .ok (.aload_n 0, 1) := by decide +kernel
theorem dX7_next_2 : decode cX7_next 2 = .ok (.getfield 25, 3) := by decide +kernel
theorem dX7_next_5 : decode cX7_next 5 = .ok (.invokevirtual 40, 3) := by decide +kernel
theorem dX7_next_8 : decode cX7_next 8 = .ok (.istore_n 1, 1) := by decide +kernel
theorem dX7_next_9 : decode cX7_next 9 = .ok (.iload_n 1, 1) := by decide +kernel
theorem dX7_next_10 : decode cX7_next 10 = .ok (.iconst (-1), 1) := by decide +kernel
theorem dX7_next_11 : decode cX7_next 11 = .ok (.if_icmp .eq 13, 3) := by decide +kernel
theorem dX7_next_14 : decode cX7_next 14 = .ok (.aload_n 0, 1) := by decide +kernel
theorem dX7_next_15 : decode cX7_next 15 = .ok (.dup, 1) := by decide +kernel
theorem dX7_next_16 : decode cX7_next 16 = .ok (.getfield 25, 3) := by decide +kernel
theorem dX7_next_19 : decode cX7_next 19 = .ok (.iconst 1, 1) := by decide +kernel
theorem dX7_next_20 : decode cX7_next 20 = .ok (.iadd, 1) := by decide +kernel
theorem dX7_next_21 : decode cX7_next 21 = .ok (.putfield 25, 3) := by decide +kernel
theorem dX7_next_24 : decode cX7_next 24 = .ok (.iload_n 1, 1) := by decide +kernel
theorem dX7_next_25 : decode cX7_next 25 = .ok (.ireturn, 1) := by decide +kernel
theorem dX7_keepReading_0 : decode cX7_keepReading 0 = .ok (.aload_n 0, 1) := by decide +kernel
theorem dX7_keepReading_1 : decode cX7_keepReading 1 = .ok (.getfield 25, 3) := by decide +kernel
theorem dX7_keepReading_4 : decode cX7_keepReading 4 = .ok (.aload_n 0, 1) := by decide +kernel
theorem dX7_keepReading_5 : decode cX7_keepReading 5 = .ok (.getfield 19, 3) := by decide +kernel
theorem dX7_keepReading_8 : decode cX7_keepReading 8 = .ok (.isub, 1) := by decide +kernel
theorem dX7_keepReading_9 : decode cX7_keepReading 9 = .ok (.istore_n 1, 1) := by decide +kernel
theorem dX7_keepReading_10 : decode cX7_keepReading 10 = .ok (.aload_n 0, 1) := by decide +kernel
theorem dX7_keepReading_11 : decode cX7_keepReading 11 = .ok (.aload_n 0, 1) := by decide +kernel
theorem dX7_keepReading_12 : decode cX7_keepReading 12 = .ok (.getfield 25, 3) := by decide +kernel
theorem dX7_keepReading_15 : decode cX7_keepReading 15 = .ok (.putfield 19, 3) := by decide +kernel
theorem dX7_keepReading_18 : decode cX7_keepReading 18 = .ok (.iload_n 1, 1) := by decide +kernel
theorem dX7_keepReading_19 : decode cX7_keepReading 19 = .ok (.ireturn, 1) := by decide +kernel
theorem dX7_fail_0 : decode cX7_fail 0 = .ok (.aload_n 0, 1) := by decide +kernel
theorem dX7_fail_1 : decode cX7_fail 1 = .ok (.iload_n 1, 1) := by decide +kernel
theorem dX7_fail_2 : decode cX7_fail 2 = .ok (.putfield 28, 3) := by decide +kernel
theorem dX7_fail_5 : decode cX7_fail 5 = .ok (.aload_n 0, 1) := by decide +kernel
theorem dX7_fail_6 : decode cX7_fail 6 = .ok (.iload_n 2, 1) := by decide +kernel
theorem dX7_fail_7 : decode cX7_fail 7 = .ok (.putfield 31, 3) := by decide +kernel
theorem dX7_fail_10 : decode cX7_fail 10 = .ok (.iconst 0, 1) := by decide +kernel
theorem dX7_fail_11 : decode cX7_fail 11 = .ok (.ireturn, 1) := by decide +kernel
theorem dX8_init_0 : decode cX8_init 0 = .ok (.aload_n 0, 1) := by decide +kernel
theorem dX8_init_1 : decode cX8_init 1 = .ok (.invokespecial 3, 3) := by decide +kernel
theorem dX8_init_4 : decode cX8_init 4 = .ok (.aload_n 0, 1) := by decide +kernel
theorem dX8_init_5 : decode cX8_init 5 = .ok (.iload_n 1, 1) := by decide +kernel
theorem dX8_init_6 : decode cX8_init 6 = .ok (.putfield 9, 3) := by decide +kernel
theorem dX8_init_9 : decode cX8_init 9 = .ok (.return_, 1) := by decide +kernel
theorem dX8_trait_0 : decode cX8_trait 0 = .ok (.iconst (-1), 1) := by decide +kernel
theorem dX8_trait_1 : decode cX8_trait 1 = .ok (.ireturn, 1) := by decide +kernel
theorem dX9_init_0 : decode cX9_init 0 = .ok (.aload_n 0, 1) := by decide +kernel
theorem dX9_init_1 : decode cX9_init 1 = .ok (.invokespecial 1, 3) := by decide +kernel
theorem dX9_init_4 : decode cX9_init 4 = .ok (.aload_n 0, 1) := by decide +kernel
theorem dX9_init_5 : decode cX9_init 5 = .ok (.bipush 40, 2) := by decide +kernel
theorem dX9_init_7 : decode cX9_init 7 = .ok (.anewarray 9, 3) := by decide +kernel
theorem dX9_init_10 : decode cX9_init 10 = .ok (.putfield 11, 3) := by decide +kernel
theorem dX9_init_13 : decode cX9_init 13 = .ok (.aload_n 0, 1) := by decide +kernel
theorem dX9_init_14 : decode cX9_init 14 = .ok (.iconst 0, 1) := by decide +kernel
theorem dX9_init_15 : decode cX9_init 15 = .ok (.putfield 15, 3) := by decide +kernel
theorem dX9_init_18 : decode cX9_init 18 = .ok (.aload_n 0, 1) := by decide +kernel
theorem dX9_init_19 : decode cX9_init 19 = .ok (.sipush 400, 3) := by decide +kernel
theorem dX9_init_22 : decode cX9_init 22 = .ok (.newarray .int, 2) := by decide +kernel
theorem dX9_init_24 : decode cX9_init 24 = .ok (.putfield 19, 3) := by decide +kernel
theorem dX9_init_27 : decode cX9_init 27 = .ok (.aload_n 0, 1) := by decide +kernel
theorem dX9_init_28 : decode cX9_init 28 = .ok (.iconst 0, 1) := by decide +kernel
theorem dX9_init_29 : decode cX9_init 29 = .ok (.putfield 23, 3) := by decide +kernel
theorem dX9_init_32 : decode cX9_init 32 = .ok (.aload_n 0, 1) := by decide +kernel
theorem dX9_init_33 : decode cX9_init 33 = .ok (.sipush 400, 3) := by decide +kernel
theorem dX9_init_36 : decode cX9_init 36 = .ok (.newarray .int, 2) := by decide +kernel
theorem dX9_init_38 : decode cX9_init 38 = .ok (.putfield 26, 3) := by decide +kernel
theorem dX9_init_41 : decode cX9_init 41 = .ok (.aload_n 0, 1) := by decide +kernel
theorem dX9_init_42 : decode cX9_init 42 = .ok (.new 29, 3) := by decide +kernel
theorem dX9_init_45 : decode cX9_init 45 = .ok (.dup, 1) := by decide +kernel
theorem dX9_init_46 : decode cX9_init 46 = .ok (.invokespecial 31, 3) := by decide +kernel
theorem dX9_init_49 : decode cX9_init 49 = .ok (.putfield 32, 3) := by decide +kernel
theorem dX9_init_52 : decode cX9_init 52 = .ok (.aload_n 0, 1) := by decide +kernel
theorem dX9_init_53 : decode cX9_init 53 = .ok (.new 36, 3) := by decide +kernel
theorem dX9_init_56 : decode cX9_init 56 = .ok (.dup, 1) := by decide +kernel
theorem dX9_init_57 : decode cX9_init 57 = .ok (.invokespecial 38, 3) := by decide +kernel
theorem dX9_init_60 : decode cX9_init 60 = .ok (.putfield 39, 3) := by decide +kernel
theorem dX9_init_63 : decode cX9_init 63 = .ok (.aload_n 0, 1) := by decide +kernel
theorem dX9_init_64 : decode cX9_init 64 = .ok (.iconst (-1), 1) := by decide +kernel
theorem dX9_init_65 : decode cX9_init 65 = .ok (.putfield 43, 3) := by decide +kernel
theorem dX9_init_68 : decode cX9_init 68 = .ok (.return_, 1) := by decide +kernel
theorem dX9_coding_0 : decode cX9_coding 0 = .ok (.iload_n 1, 1) := by decide +kernel
theorem dX9_coding_1 : decode cX9_coding 1 = .ok (.iconst 1, 1) := by decide +kernel
theorem dX9_coding_2 : decode cX9_coding 2 = .ok (.iconst 5, 1) := by decide +kernel
theorem dX9_coding_3 : decode cX9_coding 3 = .ok (.invokestatic 46, 3) := by decide +kernel
theorem dX9_coding_6 : decode cX9_coding 6 = .ok (.iload_n 2, 1) := by decide +kernel
theorem dX9_coding_7 : decode cX9_coding 7 = .ok (.iconst 1, 1) := by decide +kernel
theorem dX9_coding_8 : decode cX9_coding 8 = .ok (.sipush 256, 3) := by decide +kernel
theorem dX9_coding_11 : decode cX9_coding 11 = .ok (.invokestatic 46, 3) := by decide +kernel
theorem dX9_coding_14 : decode cX9_coding 14 = .ok (.iload_n 3, 1) := by decide +kernel
theorem dX9_coding_15 : decode cX9_coding 15 = .ok (.iconst 0, 1) := by decide +kernel
theorem dX9_coding_16 : decode cX9_coding 16 = .ok (.iconst 2, 1) := by decide +kernel
theorem dX9_coding_17 : decode cX9_coding 17 = .ok (.invokestatic 46, 3) := by decide +kernel
theorem dX9_coding_20 : decode cX9_coding 20 = .ok (.iload 4, 2) := by decide +kernel
theorem dX9_coding_22 : decode cX9_coding 22 = .ok (.iconst 0, 1) := by decide +kernel
theorem dX9_coding_23 : decode cX9_coding 23 = .ok (.iconst 1, 1) := by decide +kernel
theorem dX9_coding_24 : decode cX9_coding 24 = .ok (.invokestatic 46, 3) := by decide +kernel
theorem dX9_coding_27 : decode cX9_coding 27 = .ok (.aload_n 0, 1) := by decide +kernel
theorem dX9_coding_28 : decode cX9_coding 28 = .ok (.iconst 0, 1) := by decide +kernel
theorem dX9_coding_29 : decode cX9_coding 29 = .ok (.invokevirtual 50, 3) := by decide +kernel
theorem dX9_coding_32 : decode cX9_coding 32 = .ok (.aload_n 0, 1) := by decide +kernel
theorem dX9_coding_33 : decode cX9_coding 33 = .ok (.new 54, 3) := by decide +kernel
theorem dX9_coding_36 : decode cX9_coding 36 = .ok (.dup, 1) := by decide +kernel
theorem dX9_coding_37 : decode cX9_coding 37 = .ok (.iload_n 1, 1) := by decide +kernel
theorem dX9_coding_38 : decode cX9_coding 38 = .ok (.iload_n 2, 1) := by decide +kernel
theorem dX9_coding_39 : decode cX9_coding 39 = .ok (.iload_n 3, 1) := by decide +kernel
theorem dX9_coding_40 : decode cX9_coding 40 = .ok (.iload 4, 2) := by decide +kernel
theorem dX9_coding_42 : decode cX9_coding 42 = .ok (.invokespecial 56, 3) := by decide +kernel
theorem dX9_coding_45 : decode cX9_coding 45 = .ok (.invokevirtual 59, 3) := by decide +kernel
theorem dX9_coding_48 : decode cX9_coding 48 = .ok (.ireturn, 1) := by decide +kernel
theorem dX9_run_0 : decode cX9_run 0 = .ok (.iload_n 1, 1) := by decide +kernel
theorem dX9_run_1 : decode cX9_run 1 = .ok (.iconst 0, 1) := by decide +kernel
theorem dX9_run_2 : decode cX9_run 2 = .ok (.sipush 400, 3) := by decide +kernel
theorem dX9_run_5 : decode cX9_run 5 = .ok (.invokestatic 46, 3) := by decide +kernel
theorem dX9_run_8 : decode cX9_run 8 = .ok (.aload_n 0, 1) := by decide +kernel
theorem dX9_run_9 : decode cX9_run 9 = .ok (.iload_n 2, 1) := by decide +kernel
theorem dX9_run_10 : decode cX9_run 10 = .ok (.invokevirtual 63, 3) := by decide +kernel
theorem dX9_run_13 : decode cX9_run 13 = .ok (.astore 4, 2) := by decide +kernel
theorem dX9_run_15 : decode cX9_run 15 = .ok (.aload_n 0, 1) := by decide +kernel
theorem dX9_run_16 : decode cX9_run 16 = .ok (.iload_n 3, 1) := by decide +kernel
theorem dX9_run_17 : decode cX9_run 17 = .ok (.invokevirtual 63, 3) := by decide +kernel
theorem dX9_run_20 : decode cX9_run 20 = .ok (.astore 5, 2) := by decide +kernel
theorem dX9_run_22 : decode cX9_run 22 = .ok (.iconst 1, 1) := by decide +kernel
theorem dX9_run_23 : decode cX9_run 23 = .ok (.aload 4, 2) := by decide +kernel
theorem dX9_run_25 : decode cX9_run 25 = .ok (.getfield 67, 3) := by decide +kernel
theorem dX9_run_28 : decode cX9_run 28 = .ok (.aload 5, 2) := by decide +kernel
theorem dX9_run_30 : decode cX9_run 30 = .ok (.getfield 67, 3) := by decide +kernel
theorem dX9_run_33 : decode cX9_run 33 = .ok (.invokestatic 70, 3) := by decide +kernel
theorem dX9_run_36 : decode cX9_run 36 = .ok (.iadd, 1) := by decide +kernel
theorem dX9_run_37 : decode cX9_run 37 = .ok (.istore 6, 2) := by decide +kernel
theorem dX9_run_39 : decode cX9_run 39 = .ok (.aload_n 0, 1) := by decide +kernel
theorem dX9_run_40 : decode cX9_run 40 = .ok (.iload 6, 2) := by decide +kernel
theorem dX9_run_42 : decode cX9_run 42 = .ok (.invokevirtual 50, 3) := by decide +kernel
theorem dX9_run_45 : decode cX9_run 45 = .ok (.aload_n 0, 1) := by decide +kernel
theorem dX9_run_46 : decode cX9_run 46 = .ok (.new 76, 3) := by decide +kernel
theorem dX9_run_49 : decode cX9_run 49 = .ok (.dup, 1) := by decide +kernel
theorem dX9_run_50 : decode cX9_run 50 = .ok (.iload 6, 2) := by decide +kernel
theorem dX9_run_52 : decode cX9_run 52 = .ok (.iload_n 1, 1) := by decide +kernel
theorem dX9_run_53 : decode cX9_run 53 = .ok (.aload 4, 2) := by decide +kernel
theorem dX9_run_55 : decode cX9_run 55 = .ok (.aload 5, 2) := by decide +kernel
theorem dX9_run_57 : decode cX9_run 57 = .ok (.invokespecial 78, 3) := by decide +kernel
theorem dX9_run_60 : decode cX9_run 60 = .ok (.invokevirtual 59, 3) := by decide +kernel
theorem dX9_run_63 : decode cX9_run 63 = .ok (.ireturn, 1) := by decide +kernel
theorem dX9_popular_0 : decode cX9_popular 0 = .ok (.iload_n 1, 1) := by decide +kernel
theorem dX9_popular_1 : decode cX9_popular 1 = .ok (.iconst 1, 1) := by decide +kernel
theorem dX9_popular_2 : decode cX9_popular 2 = .ok (.bipush 50, 2) := by decide +kernel
theorem dX9_popular_4 : decode cX9_popular 4 = .ok (.invokestatic 46, 3) := by decide +kernel
theorem dX9_popular_7 : decode cX9_popular 7 = .ok (.aload_n 0, 1) := by decide +kernel
theorem dX9_popular_8 : decode cX9_popular 8 = .ok (.iload_n 2, 1) := by decide +kernel
theorem dX9_popular_9 : decode cX9_popular 9 = .ok (.invokevirtual 63, 3) := by decide +kernel
theorem dX9_popular_12 : decode cX9_popular 12 = .ok (.astore 5, 2) := by decide +kernel
theorem dX9_popular_14 : decode cX9_popular 14 = .ok (.aload_n 0, 1) := by decide +kernel
theorem dX9_popular_15 : decode cX9_popular 15 = .ok (.iload_n 3, 1) := by decide +kernel
theorem dX9_popular_16 : decode cX9_popular 16 = .ok (.invokevirtual 63, 3) := by decide +kernel
theorem dX9_popular_19 : decode cX9_popular 19 = .ok (.astore 6, 2) := by decide +kernel
theorem dX9_popular_21 : decode cX9_popular 21 = .ok (.aload_n 0, 1) := by decide +kernel
theorem dX9_popular_22 : decode cX9_popular 22 = .ok (.iload 4, 2) := by decide +kernel
theorem dX9_popular_24 : decode cX9_popular 24 = .ok (.invokevirtual 63, 3) := by decide +kernel
theorem dX9_popular_27 : decode cX9_popular 27 = .ok (.astore 7, 2) := by decide +kernel
theorem dX9_popular_29 : decode cX9_popular 29 = .ok (.iconst 1, 1) := by decide +kernel
theorem dX9_popular_30 : decode cX9_popular 30 = .ok (.aload 5, 2) := by decide +kernel
theorem dX9_popular_32 : decode cX9_popular 32 = .ok (.getfield 67, 3) := by decide +kernel
theorem dX9_popular_35 : decode cX9_popular 35 = .ok (.aload 6, 2) := by decide +kernel
theorem dX9_popular_37 : decode cX9_popular 37 = .ok (.getfield 67, 3) := by decide +kernel
theorem dX9_popular_40 : decode cX9_popular 40 = .ok (.aload 7, 2) := by decide +kernel
theorem dX9_popular_42 : decode cX9_popular 42 = .ok (.getfield 67, 3) := by decide +kernel
theorem dX9_popular_45 : decode cX9_popular 45 = .ok (.invokestatic 70, 3) := by decide +kernel
theorem dX9_popular_48 : decode cX9_popular 48 = .ok (.invokestatic 70, 3) := by decide +kernel
theorem dX9_popular_51 : decode cX9_popular 51 = .ok (.iadd, 1) := by decide +kernel
theorem dX9_popular_52 : decode cX9_popular 52 = .ok (.istore 8, 2) := by decide +kernel
theorem dX9_popular_54 : decode cX9_popular 54 = .ok (.aload_n 0, 1) := by decide +kernel
theorem dX9_popular_55 : decode cX9_popular 55 = .ok (.iload 8, 2) := by decide +kernel
theorem dX9_popular_57 : decode cX9_popular 57 = .ok (.invokevirtual 50, 3) := by decide +kernel
theorem dX9_popular_60 : decode cX9_popular 60 = .ok (.aload_n 0, 1) := by decide +kernel
theorem dX9_popular_61 : decode cX9_popular 61 = .ok (.new 81, 3) := by decide +kernel
theorem dX9_popular_64 : decode cX9_popular 64 = .ok (.dup, 1) := by decide +kernel
theorem dX9_popular_65 : decode cX9_popular 65 = .ok (.iload 8, 2) := by decide +kernel
theorem dX9_popular_67 : decode cX9_popular 67 = .ok (.iload_n 1, 1) := by decide +kernel
theorem dX9_popular_68 : decode cX9_popular 68 = .ok (.aload 5, 2) := by decide +kernel
theorem dX9_popular_70 : decode cX9_popular 70 = .ok (.aload 6, 2) := by decide +kernel
theorem dX9_popular_72 : decode cX9_popular 72 = .ok (.aload 7, 2) := by decide +kernel
theorem dX9_popular_74 : decode cX9_popular 74 = .ok (.invokespecial 83, 3) := by decide +kernel
theorem dX9_popular_77 : decode cX9_popular 77 = .ok (.invokevirtual 59, 3) := by decide +kernel
theorem dX9_popular_80 : decode cX9_popular 80 = .ok (.ireturn, 1) := by decide +kernel
theorem dX9_number_0 : decode cX9_number 0 = .ok (.aload_n 0, 1) := by decide +kernel
theorem dX9_number_1 : decode cX9_number 1 = .ok (.getfield 23, 3) := by decide +kernel
theorem dX9_number_4 : decode cX9_number 4 = .ok (.sipush 400, 3) := by decide +kernel
theorem dX9_number_7 : decode cX9_number 7 = .ok (.if_icmp .lt 13, 3) := by decide +kernel
theorem dX9_number_10 : decode cX9_number 10 = .ok (.new 86, 3) := by decide +kernel
theorem dX9_number_13 : decode cX9_number 13 = .ok (.dup, 1) := by decide +kernel
theorem dX9_number_14 : decode cX9_number 14 = .ok (.ldc 88, 2) := by decide +kernel
theorem dX9_number_16 : decode cX9_number 16 = .ok (.invokespecial 90, 3) := by decide +kernel
theorem dX9_number_19 : decode cX9_number 19 = .ok (.athrow, 1) := by decide +kernel
theorem dX9_number_20 : decode cX9_number 20 = .ok (.aload_n 0, 1) := by decide +kernel
theorem dX9_number_21 : decode cX9_number 21 = .ok (.getfield 19, 3) := by decide +kernel
theorem dX9_number_24 : decode cX9_number 24 = .ok (.aload_n 0, 1) := by decide +kernel
theorem dX9_number_25 : decode cX9_number 25 = .ok (.getfield 23, 3) := by decide +kernel
theorem dX9_number_28 : decode cX9_number 28 = .ok (.iload_n 1, 1) := by decide +kernel
theorem dX9_number_29 : decode cX9_number 29 = .ok (.iastore, 1) := by decide +kernel
theorem dX9_number_30 : decode cX9_number 30 = .ok (.aload_n 0, 1) := by decide +kernel
theorem dX9_number_31 : decode cX9_number 31 = .ok (.dup, 1) := by decide +kernel
theorem dX9_number_32 : decode cX9_number 32 = .ok (.getfield 23, 3) := by decide +kernel
theorem dX9_number_35 : decode cX9_number 35 = .ok (.iconst 1, 1) := by decide +kernel
theorem dX9_number_36 : decode cX9_number 36 = .ok (.iadd, 1) := by decide +kernel
theorem dX9_number_37 : decode cX9_number 37 = .ok (.putfield 23, 3) := by decide +kernel
theorem dX9_number_40 : decode cX9_number 40 = .ok (.aload_n 0, 1) := by decide +kernel
theorem dX9_number_41 : decode cX9_number 41 = .ok (.getfield 23, 3) := by decide +kernel
theorem dX9_number_44 : decode cX9_number 44 = .ok (.ireturn, 1) := by decide +kernel
theorem dX9_clear_0 : decode cX9_clear 0 = .ok (.aload_n 0, 1) := by decide +kernel
theorem dX9_clear_1 : decode cX9_clear 1 = .ok (.getfield 23, 3) := by decide +kernel
theorem dX9_clear_4 : decode cX9_clear 4 = .ok (.istore_n 1, 1) := by decide +kernel
theorem dX9_clear_5 : decode cX9_clear 5 = .ok (.aload_n 0, 1) := by decide +kernel
theorem dX9_clear_6 : decode cX9_clear 6 = .ok (.iconst 0, 1) := by decide +kernel
theorem dX9_clear_7 : decode cX9_clear 7 = .ok (.putfield 23, 3) := by decide +kernel
theorem dX9_clear_10 : decode cX9_clear 10 = .ok (.iload_n 1, 1) := by decide +kernel
theorem dX9_clear_11 : decode cX9_clear 11 = .ok (.ireturn, 1) := by decide +kernel
theorem dX9_row_0 : decode cX9_row 0 = .ok (.iload_n 1, 1) := by decide +kernel
theorem dX9_row_1 : decode cX9_row 1 = .ok (.ifCond .lt 20, 3) := by decide +kernel
theorem dX9_row_4 : decode cX9_row 4 = .ok (.iload_n 1, 1) := by decide +kernel
theorem dX9_row_5 : decode cX9_row 5 = .ok (.aload_n 0, 1) := by decide +kernel
theorem dX9_row_6 : decode cX9_row 6 = .ok (.getfield 23, 3) := by decide +kernel
theorem dX9_row_9 : decode cX9_row 9 = .ok (.if_icmp .ge 12, 3) := by decide +kernel
theorem dX9_row_12 : decode cX9_row 12 = .ok (.aload_n 0, 1) := by decide +kernel
theorem dX9_row_13 : decode cX9_row 13 = .ok (.getfield 19, 3) := by decide +kernel
theorem dX9_row_16 : decode cX9_row 16 = .ok (.iload_n 1, 1) := by decide +kernel
theorem dX9_row_17 : decode cX9_row 17 = .ok (.iaload, 1) := by decide +kernel
theorem dX9_row_18 : decode cX9_row 18 = .ok (.goto 4, 3) := by decide +kernel
theorem dX9_row_21 : decode cX9_row 21 = .ok (.iconst 0, 1) := by decide +kernel
theorem dX9_row_22 : decode cX9_row 22 = .ok (.ireturn, 1) := by decide +kernel
theorem dX9_cost_0 : decode cX9_cost 0 = .ok (.aload_n 0, 1) := by decide +kernel
theorem dX9_cost_1 : decode cX9_cost 1 = .ok (.aload_n 0, 1) := by decide +kernel
theorem dX9_cost_2 : decode cX9_cost 2 = .ok (.iload_n 1, 1) := by decide +kernel
theorem dX9_cost_3 : decode cX9_cost 3 = .ok (.invokevirtual 63, 3) := by decide +kernel
theorem dX9_cost_6 : decode cX9_cost 6 = .ok (.invokevirtual 93, 3) := by decide +kernel
theorem dX9_cost_9 : decode cX9_cost 9 = .ok (.ireturn, 1) := by decide +kernel
theorem dX9_pack_0 : decode cX9_pack 0 = .ok (.aload_n 0, 1) := by decide +kernel
theorem dX9_pack_1 : decode cX9_pack 1 = .ok (.aload_n 0, 1) := by decide +kernel
theorem dX9_pack_2 : decode cX9_pack 2 = .ok (.iload_n 1, 1) := by decide +kernel
theorem dX9_pack_3 : decode cX9_pack 3 = .ok (.invokevirtual 63, 3) := by decide +kernel
theorem dX9_pack_6 : decode cX9_pack 6 = .ok (.invokevirtual 93, 3) := by decide +kernel
theorem dX9_pack_9 : decode cX9_pack 9 = .ok (.istore_n 2, 1) := by decide +kernel
theorem dX9_pack_10 : decode cX9_pack 10 = .ok (.iload_n 2, 1) := by decide +kernel
theorem dX9_pack_11 : decode cX9_pack 11 = .ok (.iconst (-1), 1) := by decide +kernel
theorem dX9_pack_12 : decode cX9_pack 12 = .ok (.if_icmp .ne 5, 3) := by decide +kernel
theorem dX9_pack_15 : decode cX9_pack 15 = .ok (.iconst (-1), 1) := by decide +kernel
theorem dX9_pack_16 : decode cX9_pack 16 = .ok (.ireturn, 1) := by decide +kernel
theorem dX9_pack_17 : decode cX9_pack 17 = .ok (.aload_n 0, 1) := by decide +kernel
theorem dX9_pack_18 : decode cX9_pack 18 = .ok (.iload_n 2, 1) := by decide +kernel
theorem dX9_pack_19 : decode cX9_pack 19 = .ok (.invokevirtual 96, 3) := by decide +kernel
theorem dX9_pack_22 : decode cX9_pack 22 = .ok (.aload_n 0, 1) := by decide +kernel
theorem dX9_pack_23 : decode cX9_pack 23 = .ok (.getfield 32, 3) := by decide +kernel
theorem dX9_pack_26 : decode cX9_pack 26 = .ok (.getfield 99, 3) := by decide +kernel
theorem dX9_pack_29 : decode cX9_pack 29 = .ok (.invokevirtual 103, 3) := by decide +kernel
theorem dX9_pack_32 : decode cX9_pack 32 = .ok (.iload_n 2, 1) := by decide +kernel
theorem dX9_pack_33 : decode cX9_pack 33 = .ok (.ireturn, 1) := by decide +kernel
theorem dX9_unpack_0 : decode cX9_unpack 0 = .ok (.aload_n 0, 1) := by decide +kernel
theorem dX9_unpack_1 : decode cX9_unpack 1 = .ok (.iload_n 1, 1) := by decide +kernel
theorem dX9_unpack_2 : decode cX9_unpack 2 = .ok (.invokevirtual 63, 3) := by decide +kernel
theorem dX9_unpack_5 : decode cX9_unpack 5 = .ok (.astore_n 3, 1) := by decide +kernel
theorem dX9_unpack_6 : decode cX9_unpack 6 = .ok (.iload_n 2, 1) := by decide +kernel
theorem dX9_unpack_7 : decode cX9_unpack 7 = .ok (.iconst 0, 1) := by decide +kernel
theorem dX9_unpack_8 : decode cX9_unpack 8 = .ok (.sipush 400, 3) := by decide +kernel
theorem dX9_unpack_11 : decode cX9_unpack 11 = .ok (.invokestatic 46, 3) := by decide +kernel
theorem dX9_unpack_14 : decode cX9_unpack 14 = .ok (.aload_n 0, 1) := by decide +kernel
theorem dX9_unpack_15 : decode cX9_unpack 15 = .ok (.getfield 32, 3) := by decide +kernel
theorem dX9_unpack_18 : decode cX9_unpack 18 = .ok (.getfield 99, 3) := by decide +kernel
theorem dX9_unpack_21 : decode cX9_unpack 21 = .ok (.astore 4, 2) := by decide +kernel
theorem dX9_unpack_23 : decode cX9_unpack 23 = .ok (.aload 4, 2) := by decide +kernel
theorem dX9_unpack_25 : decode cX9_unpack 25 = .ok (.invokevirtual 108, 3) := by decide +kernel
theorem dX9_unpack_28 : decode cX9_unpack 28 = .ok (.aload_n 3, 1) := by decide +kernel
theorem dX9_unpack_29 : decode cX9_unpack 29 = .ok (.aload_n 0, 1) := by decide +kernel
theorem dX9_unpack_30 : decode cX9_unpack 30 = .ok (.getfield 32, 3) := by decide +kernel
theorem dX9_unpack_33 : decode cX9_unpack 33 = .ok (.aload_n 0, 1) := by decide +kernel
theorem dX9_unpack_34 : decode cX9_unpack 34 = .ok (.getfield 26, 3) := by decide +kernel
theorem dX9_unpack_37 : decode cX9_unpack 37 = .ok (.iconst 0, 1) := by decide +kernel
theorem dX9_unpack_38 : decode cX9_unpack 38 = .ok (.iload_n 2, 1) := by decide +kernel
theorem dX9_unpack_39 : decode cX9_unpack 39 = .ok (.invokevirtual 111, 3) := by decide +kernel
theorem dX9_unpack_42 : decode cX9_unpack 42 = .ok (.ifCond .ne 19, 3) := by decide +kernel
theorem dX9_unpack_45 : decode cX9_unpack 45 = .ok (.aload_n 0, 1) := by decide +kernel
theorem dX9_unpack_46 : decode cX9_unpack 46 = .ok (.aload 4, 2) := by decide +kernel
theorem dX9_unpack_48 : decode cX9_unpack 48 = .ok (.getfield 115, 3) := by decide +kernel
theorem dX9_unpack_51 : decode cX9_unpack 51 = .ok (.putfield 43, 3) := by decide +kernel
theorem dX9_unpack_54 : decode cX9_unpack 54 = .ok (.aload 4, 2) := by decide +kernel
theorem dX9_unpack_56 : decode cX9_unpack 56 = .ok (.getfield 116, 3) := by decide +kernel
theorem dX9_unpack_59 : decode cX9_unpack 59 = .ok (.ineg, 1) := by decide +kernel
theorem dX9_unpack_60 : decode cX9_unpack 60 = .ok (.ireturn, 1) := by decide +kernel
theorem dX9_unpack_61 : decode cX9_unpack 61 = .ok (.aload_n 0, 1) := by decide +kernel
theorem dX9_unpack_62 : decode cX9_unpack 62 = .ok (.iconst (-1), 1) := by decide +kernel
theorem dX9_unpack_63 : decode cX9_unpack 63 = .ok (.putfield 43, 3) := by decide +kernel
theorem dX9_unpack_66 : decode cX9_unpack 66 = .ok (.aload_n 0, 1) := by decide +kernel
theorem dX9_unpack_67 : decode cX9_unpack 67 = .ok (.getfield 26, 3) := by decide +kernel
theorem dX9_unpack_70 : decode cX9_unpack 70 = .ok (.iconst 0, 1) := by decide +kernel
theorem dX9_unpack_71 : decode cX9_unpack 71 = .ok (.aload_n 0, 1) := by decide +kernel
theorem dX9_unpack_72 : decode cX9_unpack 72 = .ok (.getfield 19, 3) := by decide +kernel
theorem dX9_unpack_75 : decode cX9_unpack 75 = .ok (.iconst 0, 1) := by decide +kernel
theorem dX9_unpack_76 : decode cX9_unpack 76 = .ok (.iload_n 2, 1) := by decide +kernel
theorem dX9_unpack_77 : decode cX9_unpack 77 = .ok (.invokestatic 119, 3) := by decide +kernel
theorem dX9_unpack_80 : decode cX9_unpack 80 = .ok (.aload_n 0, 1) := by decide +kernel
theorem dX9_unpack_81 : decode cX9_unpack 81 = .ok (.iload_n 2, 1) := by decide +kernel
theorem dX9_unpack_82 : decode cX9_unpack 82 = .ok (.putfield 23, 3) := by decide +kernel
theorem dX9_unpack_85 : decode cX9_unpack 85 = .ok (.aload 4, 2) := by decide +kernel
theorem dX9_unpack_87 : decode cX9_unpack 87 = .ok (.invokevirtual 125, 3) := by decide +kernel
theorem dX9_unpack_90 : decode cX9_unpack 90 = .ok (.ireturn, 1) := by decide +kernel
theorem dX9_place_0 : decode cX9_place 0 = .ok (.aload_n 0, 1) := by decide +kernel
theorem dX9_place_1 : decode cX9_place 1 = .ok (.getfield 43, 3) := by decide +kernel
theorem dX9_place_4 : decode cX9_place 4 = .ok (.ireturn, 1) := by decide +kernel
theorem dX9_best_0 : decode cX9_best 0 = .ok (.iload_n 1, 1) := by decide +kernel
theorem dX9_best_1 : decode cX9_best 1 = .ok (.iconst 0, 1) := by decide +kernel
theorem dX9_best_2 : decode cX9_best 2 = .ok (.aload_n 0, 1) := by decide +kernel
theorem dX9_best_3 : decode cX9_best 3 = .ok (.getfield 15, 3) := by decide +kernel
theorem dX9_best_6 : decode cX9_best 6 = .ok (.iconst 1, 1) := by decide +kernel
theorem dX9_best_7 : decode cX9_best 7 = .ok (.isub, 1) := by decide +kernel
theorem dX9_best_8 : decode cX9_best 8 = .ok (.invokestatic 46, 3) := by decide +kernel
theorem dX9_best_11 : decode cX9_best 11 = .ok (.iload_n 2, 1) := by decide +kernel
theorem dX9_best_12 : decode cX9_best 12 = .ok (.iload_n 1, 1) := by decide +kernel
theorem dX9_best_13 : decode cX9_best 13 = .ok (.aload_n 0, 1) := by decide +kernel
theorem dX9_best_14 : decode cX9_best 14 = .ok (.getfield 15, 3) := by decide +kernel
theorem dX9_best_17 : decode cX9_best 17 = .ok (.iconst 1, 1) := by decide +kernel
theorem dX9_best_18 : decode cX9_best 18 = .ok (.isub, 1) := by decide +kernel
theorem dX9_best_19 : decode cX9_best 19 = .ok (.invokestatic 46, 3) := by decide +kernel
theorem dX9_best_22 : decode cX9_best 22 = .ok (.iconst (-1), 1) := by decide +kernel
theorem dX9_best_23 : decode cX9_best 23 = .ok (.istore_n 3, 1) := by decide +kernel
theorem dX9_best_24 : decode cX9_best 24 = .ok (.iconst (-1), 1) := by decide +kernel
theorem dX9_best_25 : decode cX9_best 25 = .ok (.istore 4, 2) := by decide +kernel
theorem dX9_best_27 : decode cX9_best 27 = .ok (.iload_n 1, 1) := by decide +kernel
theorem dX9_best_28 : decode cX9_best 28 = .ok (.istore 5, 2) := by decide +kernel
theorem dX9_best_30 : decode cX9_best 30 = .ok (.iload 5, 2) := by decide +kernel
theorem dX9_best_32 : decode cX9_best 32 = .ok (.iload_n 2, 1) := by decide +kernel
theorem dX9_best_33 : decode cX9_best 33 = .ok (.if_icmp .gt 48, 3) := by decide +kernel
theorem dX9_best_36 : decode cX9_best 36 = .ok (.aload_n 0, 1) := by decide +kernel
theorem dX9_best_37 : decode cX9_best 37 = .ok (.aload_n 0, 1) := by decide +kernel
theorem dX9_best_38 : decode cX9_best 38 = .ok (.getfield 11, 3) := by decide +kernel
theorem dX9_best_41 : decode cX9_best 41 = .ok (.iload 5, 2) := by decide +kernel
theorem dX9_best_43 : decode cX9_best 43 = .ok (.aaload, 1) := by decide +kernel
theorem dX9_best_44 : decode cX9_best 44 = .ok (.invokevirtual 93, 3) := by decide +kernel
theorem dX9_best_47 : decode cX9_best 47 = .ok (.istore 6, 2) := by decide +kernel
theorem dX9_best_49 : decode cX9_best 49 = .ok (.iload 6, 2) := by decide +kernel
theorem dX9_best_51 : decode cX9_best 51 = .ok (.iconst (-1), 1) := by decide +kernel
theorem dX9_best_52 : decode cX9_best 52 = .ok (.if_icmp .eq 23, 3) := by decide +kernel
theorem dX9_best_55 : decode cX9_best 55 = .ok (.iload 4, 2) := by decide +kernel
theorem dX9_best_57 : decode cX9_best 57 = .ok (.iconst (-1), 1) := by decide +kernel
theorem dX9_best_58 : decode cX9_best 58 = .ok (.if_icmp .eq 10, 3) := by decide +kernel
theorem dX9_best_61 : decode cX9_best 61 = .ok (.iload 6, 2) := by decide +kernel
theorem dX9_best_63 : decode cX9_best 63 = .ok (.iload 4, 2) := by decide +kernel
theorem dX9_best_65 : decode cX9_best 65 = .ok (.if_icmp .ge 10, 3) := by decide +kernel
theorem dX9_best_68 : decode cX9_best 68 = .ok (.iload 5, 2) := by decide +kernel
theorem dX9_best_70 : decode cX9_best 70 = .ok (.istore_n 3, 1) := by decide +kernel
theorem dX9_best_71 : decode cX9_best 71 = .ok (.iload 6, 2) := by decide +kernel
theorem dX9_best_73 : decode cX9_best 73 = .ok (.istore 4, 2) := by decide +kernel
theorem dX9_best_75 : decode cX9_best 75 = .ok (.iinc 5 1, 3) := by decide +kernel
theorem dX9_best_78 : decode cX9_best 78 = .ok (.goto (-48), 3) := by decide +kernel
theorem dX9_best_81 : decode cX9_best 81 = .ok (.iload_n 3, 1) := by decide +kernel
theorem dX9_best_82 : decode cX9_best 82 = .ok (.ireturn, 1) := by decide +kernel
theorem dX9_bestRun_0 : decode cX9_bestRun 0 = .ok (.aload_n 0, 1) := by decide +kernel
theorem dX9_bestRun_1 : decode cX9_bestRun 1 = .ok (.getfield 39, 3) := by decide +kernel
theorem dX9_bestRun_4 : decode cX9_bestRun 4 = .ok (.aload_n 0, 1) := by decide +kernel
theorem dX9_bestRun_5 : decode cX9_bestRun 5 = .ok (.getfield 23, 3) := by decide +kernel
theorem dX9_bestRun_8 : decode cX9_bestRun 8 = .ok (.invokevirtual 129, 3) := by decide +kernel
theorem dX9_bestRun_11 : decode cX9_bestRun 11 = .ok (.iconst 0, 1) := by decide +kernel
theorem dX9_bestRun_12 : decode cX9_bestRun 12 = .ok (.istore_n 1, 1) := by decide +kernel
theorem dX9_bestRun_13 : decode cX9_bestRun 13 = .ok (.iload_n 1, 1) := by decide +kernel
theorem dX9_bestRun_14 : decode cX9_bestRun 14 = .ok (.aload_n 0, 1) := by decide +kernel
theorem dX9_bestRun_15 : decode cX9_bestRun 15 = .ok (.getfield 15, 3) := by decide +kernel
theorem dX9_bestRun_18 : decode cX9_bestRun 18 = .ok (.if_icmp .ge 54, 3) := by decide +kernel
theorem dX9_bestRun_21 : decode cX9_bestRun 21 = .ok (.aload_n 0, 1) := by decide +kernel
theorem dX9_bestRun_22 : decode cX9_bestRun 22 = .ok (.getfield 11, 3) := by decide +kernel
theorem dX9_bestRun_25 : decode cX9_bestRun 25 = .ok (.iload_n 1, 1) := by decide +kernel
theorem dX9_bestRun_26 : decode cX9_bestRun 26 = .ok (.aaload, 1) := by decide +kernel
theorem dX9_bestRun_27 : decode cX9_bestRun 27 = .ok (.astore_n 3, 1) := by decide +kernel
theorem dX9_bestRun_28 : decode cX9_bestRun 28 = .ok (.aload_n 3, 1) := by decide +kernel
theorem dX9_bestRun_29 : decode cX9_bestRun 29 = .ok (.instanceof 54, 3) := by decide +kernel
theorem dX9_bestRun_32 : decode cX9_bestRun 32 = .ok (.ifCond .eq 34, 3) := by decide +kernel
theorem dX9_bestRun_35 : decode cX9_bestRun 35 = .ok (.aload_n 3, 1) := by decide +kernel
theorem dX9_bestRun_36 : decode cX9_bestRun 36 = .ok (.checkcast 54, 3) := by decide +kernel
theorem dX9_bestRun_39 : decode cX9_bestRun 39 = .ok (.astore_n 2, 1) := by decide +kernel
theorem dX9_bestRun_40 : decode cX9_bestRun 40 = .ok (.aload_n 0, 1) := by decide +kernel
theorem dX9_bestRun_41 : decode cX9_bestRun 41 = .ok (.getfield 39, 3) := by decide +kernel
theorem dX9_bestRun_44 : decode cX9_bestRun 44 = .ok (.aload_n 2, 1) := by decide +kernel
theorem dX9_bestRun_45 : decode cX9_bestRun 45 = .ok (.iload_n 1, 1) := by decide +kernel
theorem dX9_bestRun_46 : decode cX9_bestRun 46 = .ok (.aload_n 0, 1) := by decide +kernel
theorem dX9_bestRun_47 : decode cX9_bestRun 47 = .ok (.getfield 19, 3) := by decide +kernel
theorem dX9_bestRun_50 : decode cX9_bestRun 50 = .ok (.invokevirtual 132, 3) := by decide +kernel
theorem dX9_bestRun_53 : decode cX9_bestRun 53 = .ok (.aload_n 0, 1) := by decide +kernel
theorem dX9_bestRun_54 : decode cX9_bestRun 54 = .ok (.getfield 39, 3) := by decide +kernel
theorem dX9_bestRun_57 : decode cX9_bestRun 57 = .ok (.aload_n 2, 1) := by decide +kernel
theorem dX9_bestRun_58 : decode cX9_bestRun 58 = .ok (.iload_n 1, 1) := by decide +kernel
theorem dX9_bestRun_59 : decode cX9_bestRun 59 = .ok (.aload_n 0, 1) := by decide +kernel
theorem dX9_bestRun_60 : decode cX9_bestRun 60 = .ok (.getfield 19, 3) := by decide +kernel
theorem dX9_bestRun_63 : decode cX9_bestRun 63 = .ok (.invokevirtual 136, 3) := by decide +kernel
theorem dX9_bestRun_66 : decode cX9_bestRun 66 = .ok (.iinc 1 1, 3) := by decide +kernel
theorem dX9_bestRun_69 : decode cX9_bestRun 69 = .ok (.goto (-56), 3) := by decide +kernel
theorem dX9_bestRun_72 : decode cX9_bestRun 72 = .ok (.aload_n 0, 1) := by decide +kernel
theorem dX9_bestRun_73 : decode cX9_bestRun 73 = .ok (.getfield 39, 3) := by decide +kernel
theorem dX9_bestRun_76 : decode cX9_bestRun 76 = .ok (.invokevirtual 139, 3) := by decide +kernel
theorem dX9_bestRun_79 : decode cX9_bestRun 79 = .ok (.ireturn, 1) := by decide +kernel
theorem dX9_chosen_0 : decode cX9_chosen 0 = .ok (.iload_n 1, 1) := by decide +kernel
theorem dX9_chosen_1 : decode cX9_chosen 1 = .ok (.tableswitch 51 0 2 #[27, 35, 43], 27) := by decide +kernel
theorem dX9_chosen_28 : decode cX9_chosen 28 = .ok (.aload_n 0, 1) := by decide +kernel
theorem dX9_chosen_29 : decode cX9_chosen 29 = .ok (.getfield 39, 3) := by decide +kernel
theorem dX9_chosen_32 : decode cX9_chosen 32 = .ok (.getfield 142, 3) := by decide +kernel
theorem dX9_chosen_35 : decode cX9_chosen 35 = .ok (.ireturn, 1) := by decide +kernel
theorem dX9_chosen_36 : decode cX9_chosen 36 = .ok (.aload_n 0, 1) := by decide +kernel
theorem dX9_chosen_37 : decode cX9_chosen 37 = .ok (.getfield 39, 3) := by decide +kernel
theorem dX9_chosen_40 : decode cX9_chosen 40 = .ok (.getfield 145, 3) := by decide +kernel
theorem dX9_chosen_43 : decode cX9_chosen 43 = .ok (.ireturn, 1) := by decide +kernel
theorem dX9_chosen_44 : decode cX9_chosen 44 = .ok (.aload_n 0, 1) := by decide +kernel
theorem dX9_chosen_45 : decode cX9_chosen 45 = .ok (.getfield 39, 3) := by decide +kernel
theorem dX9_chosen_48 : decode cX9_chosen 48 = .ok (.getfield 148, 3) := by decide +kernel
theorem dX9_chosen_51 : decode cX9_chosen 51 = .ok (.ireturn, 1) := by decide +kernel
theorem dX9_chosen_52 : decode cX9_chosen 52 = .ok (.new 151, 3) := by decide +kernel
theorem dX9_chosen_55 : decode cX9_chosen 55 = .ok (.dup, 1) := by decide +kernel
theorem dX9_chosen_56 : decode cX9_chosen 56 = .ok (.ldc 153, 2) := by decide +kernel
theorem dX9_chosen_58 : decode cX9_chosen 58 = .ok (.invokespecial 155, 3) := by decide +kernel
theorem dX9_chosen_61 : decode cX9_chosen 61 = .ok (.athrow, 1) := by decide +kernel
theorem dX9_feed_0 : decode cX9_feed 0 = .ok (.aload_n 0, 1) := by decide +kernel
theorem dX9_feed_1 : decode cX9_feed 1 = .ok (.iconst 4, 1) := by decide +kernel
theorem dX9_feed_2 : decode cX9_feed 2 = .ok (.invokevirtual 96, 3) := by decide +kernel
theorem dX9_feed_5 : decode cX9_feed 5 = .ok (.aload_n 0, 1) := by decide +kernel
theorem dX9_feed_6 : decode cX9_feed 6 = .ok (.getfield 32, 3) := by decide +kernel
theorem dX9_feed_9 : decode cX9_feed 9 = .ok (.getfield 99, 3) := by decide +kernel
theorem dX9_feed_12 : decode cX9_feed 12 = .ok (.astore_n 2, 1) := by decide +kernel
theorem dX9_feed_13 : decode cX9_feed 13 = .ok (.aload_n 2, 1) := by decide +kernel
theorem dX9_feed_14 : decode cX9_feed 14 = .ok (.invokevirtual 156, 3) := by decide +kernel
theorem dX9_feed_17 : decode cX9_feed 17 = .ok (.bipush 24, 2) := by decide +kernel
theorem dX9_feed_19 : decode cX9_feed 19 = .ok (.istore_n 3, 1) := by decide +kernel
theorem dX9_feed_20 : decode cX9_feed 20 = .ok (.iload_n 3, 1) := by decide +kernel
theorem dX9_feed_21 : decode cX9_feed 21 = .ok (.ifCond .lt 16, 3) := by decide +kernel
theorem dX9_feed_24 : decode cX9_feed 24 = .ok (.aload_n 2, 1) := by decide +kernel
theorem dX9_feed_25 : decode cX9_feed 25 = .ok (.iload_n 1, 1) := by decide +kernel
theorem dX9_feed_26 : decode cX9_feed 26 = .ok (.iload_n 3, 1) := by decide +kernel
theorem dX9_feed_27 : decode cX9_feed 27 = .ok (.iushr, 1) := by decide +kernel
theorem dX9_feed_28 : decode cX9_feed 28 = .ok (.invokevirtual 159, 3) := by decide +kernel
theorem dX9_feed_31 : decode cX9_feed 31 = .ok (.iinc 3 (-8), 3) := by decide +kernel
theorem dX9_feed_34 : decode cX9_feed 34 = .ok (.goto (-14), 3) := by decide +kernel
theorem dX9_feed_37 : decode cX9_feed 37 = .ok (.aload_n 2, 1) := by decide +kernel
theorem dX9_feed_38 : decode cX9_feed 38 = .ok (.invokevirtual 103, 3) := by decide +kernel
theorem dX9_feed_41 : decode cX9_feed 41 = .ok (.aload_n 2, 1) := by decide +kernel
theorem dX9_feed_42 : decode cX9_feed 42 = .ok (.getfield 162, 3) := by decide +kernel
theorem dX9_feed_45 : decode cX9_feed 45 = .ok (.ireturn, 1) := by decide +kernel
theorem dX9_end_0 : decode cX9_end 0 = .ok (.aload_n 0, 1) := by decide +kernel
theorem dX9_end_1 : decode cX9_end 1 = .ok (.getfield 32, 3) := by decide +kernel
theorem dX9_end_4 : decode cX9_end 4 = .ok (.getfield 99, 3) := by decide +kernel
theorem dX9_end_7 : decode cX9_end 7 = .ok (.astore_n 2, 1) := by decide +kernel
theorem dX9_end_8 : decode cX9_end 8 = .ok (.iload_n 1, 1) := by decide +kernel
theorem dX9_end_9 : decode cX9_end 9 = .ok (.iconst 0, 1) := by decide +kernel
theorem dX9_end_10 : decode cX9_end 10 = .ok (.aload_n 2, 1) := by decide +kernel
theorem dX9_end_11 : decode cX9_end 11 = .ok (.getfield 162, 3) := by decide +kernel
theorem dX9_end_14 : decode cX9_end 14 = .ok (.invokestatic 46, 3) := by decide +kernel
theorem dX9_end_17 : decode cX9_end 17 = .ok (.aload_n 2, 1) := by decide +kernel
theorem dX9_end_18 : decode cX9_end 18 = .ok (.iload_n 1, 1) := by decide +kernel
theorem dX9_end_19 : decode cX9_end 19 = .ok (.putfield 162, 3) := by decide +kernel
theorem dX9_end_22 : decode cX9_end 22 = .ok (.aload_n 2, 1) := by decide +kernel
theorem dX9_end_23 : decode cX9_end 23 = .ok (.aload_n 2, 1) := by decide +kernel
theorem dX9_end_24 : decode cX9_end 24 = .ok (.getfield 165, 3) := by decide +kernel
theorem dX9_end_27 : decode cX9_end 27 = .ok (.iload_n 1, 1) := by decide +kernel
theorem dX9_end_28 : decode cX9_end 28 = .ok (.invokestatic 168, 3) := by decide +kernel
theorem dX9_end_31 : decode cX9_end 31 = .ok (.putfield 165, 3) := by decide +kernel
theorem dX9_end_34 : decode cX9_end 34 = .ok (.return_, 1) := by decide +kernel
theorem dX9_seek_0 : decode cX9_seek 0 = .ok (.aload_n 0, 1) := by decide +kernel
theorem dX9_seek_1 : decode cX9_seek 1 = .ok (.getfield 32, 3) := by decide +kernel
theorem dX9_seek_4 : decode cX9_seek 4 = .ok (.getfield 99, 3) := by decide +kernel
theorem dX9_seek_7 : decode cX9_seek 7 = .ok (.astore_n 2, 1) := by decide +kernel
theorem dX9_seek_8 : decode cX9_seek 8 = .ok (.iload_n 1, 1) := by decide +kernel
theorem dX9_seek_9 : decode cX9_seek 9 = .ok (.iconst 0, 1) := by decide +kernel
theorem dX9_seek_10 : decode cX9_seek 10 = .ok (.aload_n 2, 1) := by decide +kernel
theorem dX9_seek_11 : decode cX9_seek 11 = .ok (.getfield 162, 3) := by decide +kernel
theorem dX9_seek_14 : decode cX9_seek 14 = .ok (.invokestatic 46, 3) := by decide +kernel
theorem dX9_seek_17 : decode cX9_seek 17 = .ok (.aload_n 2, 1) := by decide +kernel
theorem dX9_seek_18 : decode cX9_seek 18 = .ok (.getfield 165, 3) := by decide +kernel
theorem dX9_seek_21 : decode cX9_seek 21 = .ok (.istore_n 3, 1) := by decide +kernel
theorem dX9_seek_22 : decode cX9_seek 22 = .ok (.aload_n 2, 1) := by decide +kernel
theorem dX9_seek_23 : decode cX9_seek 23 = .ok (.iload_n 1, 1) := by decide +kernel
theorem dX9_seek_24 : decode cX9_seek 24 = .ok (.putfield 165, 3) := by decide +kernel
theorem dX9_seek_27 : decode cX9_seek 27 = .ok (.iload_n 3, 1) := by decide +kernel
theorem dX9_seek_28 : decode cX9_seek 28 = .ok (.ireturn, 1) := by decide +kernel
theorem dX9_tape_0 : decode cX9_tape 0 = .ok (.aload_n 0, 1) := by decide +kernel
theorem dX9_tape_1 : decode cX9_tape 1 = .ok (.getfield 32, 3) := by decide +kernel
theorem dX9_tape_4 : decode cX9_tape 4 = .ok (.getfield 99, 3) := by decide +kernel
theorem dX9_tape_7 : decode cX9_tape 7 = .ok (.iload_n 1, 1) := by decide +kernel
theorem dX9_tape_8 : decode cX9_tape 8 = .ok (.invokevirtual 171, 3) := by decide +kernel
theorem dX9_tape_11 : decode cX9_tape 11 = .ok (.ireturn, 1) := by decide +kernel
theorem dX9_way_0 : decode cX9_way 0 = .ok (.aload_n 0, 1) := by decide +kernel
theorem dX9_way_1 : decode cX9_way 1 = .ok (.iload_n 1, 1) := by decide +kernel
theorem dX9_way_2 : decode cX9_way 2 = .ok (.invokevirtual 63, 3) := by decide +kernel
theorem dX9_way_5 : decode cX9_way 5 = .ok (.astore_n 3, 1) := by decide +kernel
theorem dX9_way_6 : decode cX9_way 6 = .ok (.iload_n 2, 1) := by decide +kernel
theorem dX9_way_7 : decode cX9_way 7 = .ok (.iconst 0, 1) := by decide +kernel
theorem dX9_way_8 : decode cX9_way 8 = .ok (.iconst 4, 1) := by decide +kernel
theorem dX9_way_9 : decode cX9_way 9 = .ok (.invokestatic 46, 3) := by decide +kernel
theorem dX9_way_12 : decode cX9_way 12 = .ok (.iload_n 2, 1) := by decide +kernel
theorem dX9_way_13 : decode cX9_way 13 = .ok (.iconst 4, 1) := by decide +kernel
theorem dX9_way_14 : decode cX9_way 14 = .ok (.if_icmp .ne 10, 3) := by decide +kernel
theorem dX9_way_17 : decode cX9_way 17 = .ok (.aload_n 3, 1) := by decide +kernel
theorem dX9_way_18 : decode cX9_way 18 = .ok (.getfield 67, 3) := by decide +kernel
theorem dX9_way_21 : decode cX9_way 21 = .ok (.goto 8, 3) := by decide +kernel
theorem dX9_way_24 : decode cX9_way 24 = .ok (.aload_n 3, 1) := by decide +kernel
theorem dX9_way_25 : decode cX9_way 25 = .ok (.iload_n 2, 1) := by decide +kernel
theorem dX9_way_26 : decode cX9_way 26 = .ok (.invokevirtual 175, 3) := by decide +kernel
theorem dX9_way_29 : decode cX9_way 29 = .ok (.ireturn, 1) := by decide +kernel
theorem dX9_about_0 : decode cX9_about 0 = .ok (.iload_n 1, 1) := by decide +kernel
theorem dX9_about_1 : decode cX9_about 1 = .ok (.tableswitch 63 0 3 #[31, 36, 41, 52], 31) := by decide +kernel
theorem dX9_about_32 : decode cX9_about 32 = .ok (.aload_n 0, 1) := by decide +kernel
theorem dX9_about_33 : decode cX9_about 33 = .ok (.getfield 15, 3) := by decide +kernel
theorem dX9_about_36 : decode cX9_about 36 = .ok (.ireturn, 1) := by decide +kernel
theorem dX9_about_37 : decode cX9_about 37 = .ok (.aload_n 0, 1) := by decide +kernel
theorem dX9_about_38 : decode cX9_about 38 = .ok (.getfield 23, 3) := by decide +kernel
theorem dX9_about_41 : decode cX9_about 41 = .ok (.ireturn, 1) := by decide +kernel
theorem dX9_about_42 : decode cX9_about 42 = .ok (.aload_n 0, 1) := by decide +kernel
theorem dX9_about_43 : decode cX9_about 43 = .ok (.getfield 32, 3) := by decide +kernel
theorem dX9_about_46 : decode cX9_about 46 = .ok (.getfield 99, 3) := by decide +kernel
theorem dX9_about_49 : decode cX9_about 49 = .ok (.getfield 162, 3) := by decide +kernel
theorem dX9_about_52 : decode cX9_about 52 = .ok (.ireturn, 1) := by decide +kernel
theorem dX9_about_53 : decode cX9_about 53 = .ok (.aload_n 0, 1) := by decide +kernel
theorem dX9_about_54 : decode cX9_about 54 = .ok (.getfield 32, 3) := by decide +kernel
theorem dX9_about_57 : decode cX9_about 57 = .ok (.getfield 99, 3) := by decide +kernel
theorem dX9_about_60 : decode cX9_about 60 = .ok (.getfield 165, 3) := by decide +kernel
theorem dX9_about_63 : decode cX9_about 63 = .ok (.ireturn, 1) := by decide +kernel
theorem dX9_about_64 : decode cX9_about 64 = .ok (.new 151, 3) := by decide +kernel
theorem dX9_about_67 : decode cX9_about 67 = .ok (.dup, 1) := by decide +kernel
theorem dX9_about_68 : decode cX9_about 68 = .ok (.ldc 178, 2) := by decide +kernel
theorem dX9_about_70 : decode cX9_about 70 = .ok (.invokespecial 155, 3) := by decide +kernel
theorem dX9_about_73 : decode cX9_about 73 = .ok (.athrow, 1) := by decide +kernel
theorem dX9_checkRange_0 : decode cX9_checkRange 0 = .ok (.iload_n 0, 1) := by decide +kernel
theorem dX9_checkRange_1 : decode cX9_checkRange 1 = .ok (.iload_n 1, 1) := by decide +kernel
theorem dX9_checkRange_2 : decode cX9_checkRange 2 = .ok (.if_icmp .lt 8, 3) := by decide +kernel
theorem dX9_checkRange_5 : decode cX9_checkRange 5 = .ok (.iload_n 0, 1) := by decide +kernel
theorem dX9_checkRange_6 : decode cX9_checkRange 6 = .ok (.iload_n 2, 1) := by decide +kernel
theorem dX9_checkRange_7 : decode cX9_checkRange 7 = .ok (.if_icmp .le 13, 3) := by decide +kernel
theorem dX9_checkRange_10 : decode cX9_checkRange 10 = .ok (.new 151, 3) := by decide +kernel
theorem dX9_checkRange_13 : decode cX9_checkRange 13 = .ok (.dup, 1) := by decide +kernel
theorem dX9_checkRange_14 : decode cX9_checkRange 14 = .ok (.ldc 180, 2) := by decide +kernel
theorem dX9_checkRange_16 : decode cX9_checkRange 16 = .ok (.invokespecial 155, 3) := by decide +kernel
theorem dX9_checkRange_19 : decode cX9_checkRange 19 = .ok (.athrow, 1) := by decide +kernel
theorem dX9_checkRange_20 : decode cX9_checkRange 20 = .ok (.return_, 1) := by decide +kernel
theorem dX9_wayAt_0 : decode cX9_wayAt 0 = .ok (.iload_n 1, 1) := by decide +kernel
theorem dX9_wayAt_1 : decode cX9_wayAt 1 = .ok (.iconst 0, 1) := by decide +kernel
theorem dX9_wayAt_2 : decode cX9_wayAt 2 = .ok (.aload_n 0, 1) := by decide +kernel
theorem dX9_wayAt_3 : decode cX9_wayAt 3 = .ok (.getfield 15, 3) := by decide +kernel
theorem dX9_wayAt_6 : decode cX9_wayAt 6 = .ok (.iconst 1, 1) := by decide +kernel
theorem dX9_wayAt_7 : decode cX9_wayAt 7 = .ok (.isub, 1) := by decide +kernel
theorem dX9_wayAt_8 : decode cX9_wayAt 8 = .ok (.invokestatic 46, 3) := by decide +kernel
theorem dX9_wayAt_11 : decode cX9_wayAt 11 = .ok (.aload_n 0, 1) := by decide +kernel
theorem dX9_wayAt_12 : decode cX9_wayAt 12 = .ok (.getfield 11, 3) := by decide +kernel
theorem dX9_wayAt_15 : decode cX9_wayAt 15 = .ok (.iload_n 1, 1) := by decide +kernel
theorem dX9_wayAt_16 : decode cX9_wayAt 16 = .ok (.aaload, 1) := by decide +kernel
theorem dX9_wayAt_17 : decode cX9_wayAt 17 = .ok (.areturn, 1) := by decide +kernel
theorem dX9_checkRoomForWay_0 : decode cX9_checkRoomForWay 0 = .ok (.aload_n 0, 1) := by decide +kernel
theorem dX9_checkRoomForWay_1 : decode cX9_checkRoomForWay 1 = .ok (.getfield 15, 3) := by decide +kernel
theorem dX9_checkRoomForWay_4 : decode cX9_checkRoomForWay 4 = .ok (.bipush 40, 2) := by decide +kernel
theorem dX9_checkRoomForWay_6 : decode cX9_checkRoomForWay 6 = .ok (.if_icmp .lt 13, 3) := by decide +kernel
theorem dX9_checkRoomForWay_9 : decode cX9_checkRoomForWay 9 = .ok (.new 86, 3) := by decide +kernel
theorem dX9_checkRoomForWay_12 : decode cX9_checkRoomForWay 12 = .ok (.dup, 1) := by decide +kernel
theorem dX9_checkRoomForWay_13 : decode cX9_checkRoomForWay 13 = .ok (.ldc 182, 2) := by decide +kernel
theorem dX9_checkRoomForWay_15 : decode cX9_checkRoomForWay 15 = .ok (.invokespecial 90, 3) := by decide +kernel
theorem dX9_checkRoomForWay_18 : decode cX9_checkRoomForWay 18 = .ok (.athrow, 1) := by decide +kernel
theorem dX9_checkRoomForWay_19 : decode cX9_checkRoomForWay 19 = .ok (.iload_n 1, 1) := by decide +kernel
theorem dX9_checkRoomForWay_20 : decode cX9_checkRoomForWay 20 = .ok (.iconst 4, 1) := by decide +kernel
theorem dX9_checkRoomForWay_21 : decode cX9_checkRoomForWay 21 = .ok (.if_icmp .le 13, 3) := by decide +kernel
theorem dX9_checkRoomForWay_24 : decode cX9_checkRoomForWay 24 = .ok (.new 86, 3) := by decide +kernel
theorem dX9_checkRoomForWay_27 : decode cX9_checkRoomForWay 27 = .ok (.dup, 1) := by decide +kernel
theorem dX9_checkRoomForWay_28 : decode cX9_checkRoomForWay 28 = .ok (.ldc 184, 2) := by decide +kernel
theorem dX9_checkRoomForWay_30 : decode cX9_checkRoomForWay 30 = .ok (.invokespecial 90, 3) := by decide +kernel
theorem dX9_checkRoomForWay_33 : decode cX9_checkRoomForWay 33 = .ok (.athrow, 1) := by decide +kernel
theorem dX9_checkRoomForWay_34 : decode cX9_checkRoomForWay 34 = .ok (.return_, 1) := by decide +kernel
theorem dX9_addWay_0 : decode cX9_addWay 0 = .ok (.aload_n 0, 1) := by decide +kernel
theorem dX9_addWay_1 : decode cX9_addWay 1 = .ok (.getfield 11, 3) := by decide +kernel
theorem dX9_addWay_4 : decode cX9_addWay 4 = .ok (.aload_n 0, 1) := by decide +kernel
theorem dX9_addWay_5 : decode cX9_addWay 5 = .ok (.getfield 15, 3) := by decide +kernel
theorem dX9_addWay_8 : decode cX9_addWay 8 = .ok (.aload_n 1, 1) := by decide +kernel
theorem dX9_addWay_9 : decode cX9_addWay 9 = .ok (.aastore, 1) := by decide +kernel
theorem dX9_addWay_10 : decode cX9_addWay 10 = .ok (.aload_n 0, 1) := by decide +kernel
theorem dX9_addWay_11 : decode cX9_addWay 11 = .ok (.dup, 1) := by decide +kernel
theorem dX9_addWay_12 : decode cX9_addWay 12 = .ok (.getfield 15, 3) := by decide +kernel
theorem dX9_addWay_15 : decode cX9_addWay 15 = .ok (.iconst 1, 1) := by decide +kernel
theorem dX9_addWay_16 : decode cX9_addWay 16 = .ok (.iadd, 1) := by decide +kernel
theorem dX9_addWay_17 : decode cX9_addWay 17 = .ok (.putfield 15, 3) := by decide +kernel
theorem dX9_addWay_20 : decode cX9_addWay 20 = .ok (.aload_n 0, 1) := by decide +kernel
theorem dX9_addWay_21 : decode cX9_addWay 21 = .ok (.getfield 15, 3) := by decide +kernel
theorem dX9_addWay_24 : decode cX9_addWay 24 = .ok (.iconst 1, 1) := by decide +kernel
theorem dX9_addWay_25 : decode cX9_addWay 25 = .ok (.isub, 1) := by decide +kernel
theorem dX9_addWay_26 : decode cX9_addWay 26 = .ok (.ireturn, 1) := by decide +kernel
theorem dX9_checkRoomOnTape_0 : decode cX9_checkRoomOnTape 0 = .ok (.iload_n 1, 1) := by decide +kernel
theorem dX9_checkRoomOnTape_1 : decode cX9_checkRoomOnTape 1 = .ok (.sipush 8000, 3) := by decide +kernel
theorem dX9_checkRoomOnTape_4 : decode cX9_checkRoomOnTape 4 = .ok (.aload_n 0, 1) := by decide +kernel
theorem dX9_checkRoomOnTape_5 : decode cX9_checkRoomOnTape 5 = .ok (.getfield 32, 3) := by decide +kernel
theorem dX9_checkRoomOnTape_8 : decode cX9_checkRoomOnTape 8 = .ok (.getfield 99, 3) := by decide +kernel
theorem dX9_checkRoomOnTape_11 : decode cX9_checkRoomOnTape 11 = .ok (.getfield 162, 3) := by decide +kernel
theorem dX9_checkRoomOnTape_14 : decode cX9_checkRoomOnTape 14 = .ok (.isub, 1) := by decide +kernel
theorem dX9_checkRoomOnTape_15 : decode cX9_checkRoomOnTape 15 = .ok (.if_icmp .le 13, 3) := by decide +kernel
theorem dX9_checkRoomOnTape_18 : decode cX9_checkRoomOnTape 18 = .ok (.new 86, 3) := by decide +kernel
theorem dX9_checkRoomOnTape_21 : decode cX9_checkRoomOnTape 21 = .ok (.dup, 1) := by decide +kernel
theorem dX9_checkRoomOnTape_22 : decode cX9_checkRoomOnTape 22 = .ok (.ldc 186, 2) := by decide +kernel
theorem dX9_checkRoomOnTape_24 : decode cX9_checkRoomOnTape 24 = .ok (.invokespecial 90, 3) := by decide +kernel
theorem dX9_checkRoomOnTape_27 : decode cX9_checkRoomOnTape 27 = .ok (.athrow, 1) := by decide +kernel
theorem dX9_checkRoomOnTape_28 : decode cX9_checkRoomOnTape 28 = .ok (.return_, 1) := by decide +kernel
theorem dX9_draftRow_0 : decode cX9_draftRow 0 = .ok (.aload_n 0, 1) := by decide +kernel
theorem dX9_draftRow_1 : decode cX9_draftRow 1 = .ok (.getfield 32, 3) := by decide +kernel
theorem dX9_draftRow_4 : decode cX9_draftRow 4 = .ok (.getfield 99, 3) := by decide +kernel
theorem dX9_draftRow_7 : decode cX9_draftRow 7 = .ok (.astore_n 2, 1) := by decide +kernel
theorem dX9_draftRow_8 : decode cX9_draftRow 8 = .ok (.aload_n 2, 1) := by decide +kernel
theorem dX9_draftRow_9 : decode cX9_draftRow 9 = .ok (.invokevirtual 156, 3) := by decide +kernel
theorem dX9_draftRow_12 : decode cX9_draftRow 12 = .ok (.aload_n 1, 1) := by decide +kernel
theorem dX9_draftRow_13 : decode cX9_draftRow 13 = .ok (.aload_n 0, 1) := by decide +kernel
theorem dX9_draftRow_14 : decode cX9_draftRow 14 = .ok (.getfield 32, 3) := by decide +kernel
theorem dX9_draftRow_17 : decode cX9_draftRow 17 = .ok (.aload_n 0, 1) := by decide +kernel
theorem dX9_draftRow_18 : decode cX9_draftRow 18 = .ok (.getfield 19, 3) := by decide +kernel
theorem dX9_draftRow_21 : decode cX9_draftRow 21 = .ok (.iconst 0, 1) := by decide +kernel
theorem dX9_draftRow_22 : decode cX9_draftRow 22 = .ok (.aload_n 0, 1) := by decide +kernel
theorem dX9_draftRow_23 : decode cX9_draftRow 23 = .ok (.getfield 23, 3) := by decide +kernel
theorem dX9_draftRow_26 : decode cX9_draftRow 26 = .ok (.invokevirtual 188, 3) := by decide +kernel
theorem dX9_draftRow_29 : decode cX9_draftRow 29 = .ok (.ifCond .eq 10, 3) := by decide +kernel
theorem dX9_draftRow_32 : decode cX9_draftRow 32 = .ok (.aload_n 2, 1) := by decide +kernel
theorem dX9_draftRow_33 : decode cX9_draftRow 33 = .ok (.getfield 191, 3) := by decide +kernel
theorem dX9_draftRow_36 : decode cX9_draftRow 36 = .ok (.goto 4, 3) := by decide +kernel
theorem dX9_draftRow_39 : decode cX9_draftRow 39 = .ok (.iconst (-1), 1) := by decide +kernel
theorem dX9_draftRow_40 : decode cX9_draftRow 40 = .ok (.ireturn, 1) := by decide +kernel
theorem dX10_init_0 : decode cX10_init 0 = .ok (.aload_n 0, 1) := by decide +kernel
theorem dX10_init_1 : decode cX10_init 1 = .ok (.invokespecial 1, 3) := by decide +kernel
theorem dX10_init_4 : decode cX10_init 4 = .ok (.aload_n 0, 1) := by decide +kernel
theorem dX10_init_5 : decode cX10_init 5 = .ok (.bipush 40, 2) := by decide +kernel
theorem dX10_init_7 : decode cX10_init 7 = .ok (.newarray .int, 2) := by decide +kernel
theorem dX10_init_9 : decode cX10_init 9 = .ok (.putfield 7, 3) := by decide +kernel
theorem dX10_init_12 : decode cX10_init 12 = .ok (.aload_n 0, 1) := by decide +kernel
theorem dX10_init_13 : decode cX10_init 13 = .ok (.bipush 40, 2) := by decide +kernel
theorem dX10_init_15 : decode cX10_init 15 = .ok (.newarray .int, 2) := by decide +kernel
theorem dX10_init_17 : decode cX10_init 17 = .ok (.putfield 13, 3) := by decide +kernel
theorem dX10_init_20 : decode cX10_init 20 = .ok (.aload_n 0, 1) := by decide +kernel
theorem dX10_init_21 : decode cX10_init 21 = .ok (.bipush 40, 2) := by decide +kernel
theorem dX10_init_23 : decode cX10_init 23 = .ok (.newarray .int, 2) := by decide +kernel
theorem dX10_init_25 : decode cX10_init 25 = .ok (.putfield 16, 3) := by decide +kernel
theorem dX10_init_28 : decode cX10_init 28 = .ok (.aload_n 0, 1) := by decide +kernel
theorem dX10_init_29 : decode cX10_init 29 = .ok (.bipush 40, 2) := by decide +kernel
theorem dX10_init_31 : decode cX10_init 31 = .ok (.newarray .int, 2) := by decide +kernel
theorem dX10_init_33 : decode cX10_init 33 = .ok (.putfield 19, 3) := by decide +kernel
theorem dX10_init_36 : decode cX10_init 36 = .ok (.aload_n 0, 1) := by decide +kernel
theorem dX10_init_37 : decode cX10_init 37 = .ok (.bipush 40, 2) := by decide +kernel
theorem dX10_init_39 : decode cX10_init 39 = .ok (.newarray .int, 2) := by decide +kernel
theorem dX10_init_41 : decode cX10_init 41 = .ok (.putfield 22, 3) := by decide +kernel
theorem dX10_init_44 : decode cX10_init 44 = .ok (.aload_n 0, 1) := by decide +kernel
theorem dX10_init_45 : decode cX10_init 45 = .ok (.bipush 40, 2) := by decide +kernel
theorem dX10_init_47 : decode cX10_init 47 = .ok (.newarray .int, 2) := by decide +kernel
theorem dX10_init_49 : decode cX10_init 49 = .ok (.putfield 25, 3) := by decide +kernel
theorem dX10_init_52 : decode cX10_init 52 = .ok (.aload_n 0, 1) := by decide +kernel
theorem dX10_init_53 : decode cX10_init 53 = .ok (.sipush 400, 3) := by decide +kernel
theorem dX10_init_56 : decode cX10_init 56 = .ok (.newarray .int, 2) := by decide +kernel
theorem dX10_init_58 : decode cX10_init 58 = .ok (.putfield 28, 3) := by decide +kernel
theorem dX10_init_61 : decode cX10_init 61 = .ok (.aload_n 0, 1) := by decide +kernel
theorem dX10_init_62 : decode cX10_init 62 = .ok (.sipush 8000, 3) := by decide +kernel
theorem dX10_init_65 : decode cX10_init 65 = .ok (.newarray .int, 2) := by decide +kernel
theorem dX10_init_67 : decode cX10_init 67 = .ok (.putfield 31, 3) := by decide +kernel
theorem dX10_init_70 : decode cX10_init 70 = .ok (.aload_n 0, 1) := by decide +kernel
theorem dX10_init_71 : decode cX10_init 71 = .ok (.iconst (-1), 1) := by decide +kernel
theorem dX10_init_72 : decode cX10_init 72 = .ok (.putfield 34, 3) := by decide +kernel
theorem dX10_init_75 : decode cX10_init 75 = .ok (.aload_n 0, 1) := by decide +kernel
theorem dX10_init_76 : decode cX10_init 76 = .ok (.iconst (-1), 1) := by decide +kernel
theorem dX10_init_77 : decode cX10_init 77 = .ok (.putfield 38, 3) := by decide +kernel
theorem dX10_init_80 : decode cX10_init 80 = .ok (.aload_n 0, 1) := by decide +kernel
theorem dX10_init_81 : decode cX10_init 81 = .ok (.iconst (-1), 1) := by decide +kernel
theorem dX10_init_82 : decode cX10_init 82 = .ok (.putfield 41, 3) := by decide +kernel
theorem dX10_init_85 : decode cX10_init 85 = .ok (.aload_n 0, 1) := by decide +kernel
theorem dX10_init_86 : decode cX10_init 86 = .ok (.iconst (-1), 1) := by decide +kernel
theorem dX10_init_87 : decode cX10_init 87 = .ok (.putfield 44, 3) := by decide +kernel
theorem dX10_init_90 : decode cX10_init 90 = .ok (.aload_n 0, 1) := by decide +kernel
theorem dX10_init_91 : decode cX10_init 91 = .ok (.ldc 47, 2) := by decide +kernel
theorem dX10_init_93 : decode cX10_init 93 = .ok (.newarray .int, 2) := by decide +kernel
theorem dX10_init_95 : decode cX10_init 95 = .ok (.putfield 48, 3) := by decide +kernel
theorem dX10_init_98 : decode cX10_init 98 = .ok (.aload_n 0, 1) := by decide +kernel
theorem dX10_init_99 : decode cX10_init 99 = .ok (.bipush 80, 2) := by decide +kernel
theorem dX10_init_101 : decode cX10_init 101 = .ok (.newarray .int, 2) := by decide +kernel
theorem dX10_init_103 : decode cX10_init 103 = .ok (.putfield 51, 3) := by decide +kernel
theorem dX10_init_106 : decode cX10_init 106 = .ok (.aload_n 0, 1) := by decide +kernel
theorem dX10_init_107 : decode cX10_init 107 = .ok (.bipush 80, 2) := by decide +kernel
theorem dX10_init_109 : decode cX10_init 109 = .ok (.newarray .int, 2) := by decide +kernel
theorem dX10_init_111 : decode cX10_init 111 = .ok (.putfield 54, 3) := by decide +kernel
theorem dX10_init_114 : decode cX10_init 114 = .ok (.aload_n 0, 1) := by decide +kernel
theorem dX10_init_115 : decode cX10_init 115 = .ok (.bipush 80, 2) := by decide +kernel
theorem dX10_init_117 : decode cX10_init 117 = .ok (.newarray .int, 2) := by decide +kernel
theorem dX10_init_119 : decode cX10_init 119 = .ok (.putfield 57, 3) := by decide +kernel
theorem dX10_init_122 : decode cX10_init 122 = .ok (.aload_n 0, 1) := by decide +kernel
theorem dX10_init_123 : decode cX10_init 123 = .ok (.sipush 400, 3) := by decide +kernel
theorem dX10_init_126 : decode cX10_init 126 = .ok (.newarray .int, 2) := by decide +kernel
theorem dX10_init_128 : decode cX10_init 128 = .ok (.putfield 60, 3) := by decide +kernel
theorem dX10_init_131 : decode cX10_init 131 = .ok (.aload_n 0, 1) := by decide +kernel
theorem dX10_init_132 : decode cX10_init 132 = .ok (.sipush 8000, 3) := by decide +kernel
theorem dX10_init_135 : decode cX10_init 135 = .ok (.newarray .int, 2) := by decide +kernel
theorem dX10_init_137 : decode cX10_init 137 = .ok (.putfield 63, 3) := by decide +kernel
theorem dX10_init_140 : decode cX10_init 140 = .ok (.aload_n 0, 1) := by decide +kernel
theorem dX10_init_141 : decode cX10_init 141 = .ok (.bipush 8, 2) := by decide +kernel
theorem dX10_init_143 : decode cX10_init 143 = .ok (.newarray .int, 2) := by decide +kernel
theorem dX10_init_145 : decode cX10_init 145 = .ok (.putfield 66, 3) := by decide +kernel
theorem dX10_init_148 : decode cX10_init 148 = .ok (.aload_n 0, 1) := by decide +kernel
theorem dX10_init_149 : decode cX10_init 149 = .ok (.bipush 8, 2) := by decide +kernel
theorem dX10_init_151 : decode cX10_init 151 = .ok (.newarray .int, 2) := by decide +kernel
theorem dX10_init_153 : decode cX10_init 153 = .ok (.putfield 69, 3) := by decide +kernel
theorem dX10_init_156 : decode cX10_init 156 = .ok (.aload_n 0, 1) := by decide +kernel
theorem dX10_init_157 : decode cX10_init 157 = .ok (.bipush 8, 2) := by decide +kernel
theorem dX10_init_159 : decode cX10_init 159 = .ok (.newarray .int, 2) := by decide +kernel
theorem dX10_init_161 : decode cX10_init 161 = .ok (.putfield 72, 3) := by decide +kernel
theorem dX10_init_164 : decode cX10_init 164 = .ok (.aload_n 0, 1) := by decide +kernel
theorem dX10_init_165 : decode cX10_init 165 = .ok (.bipush 8, 2) := by decide +kernel
theorem dX10_init_167 : decode cX10_init 167 = .ok (.newarray .int, 2) := by decide +kernel
theorem dX10_init_169 : decode cX10_init 169 = .ok (.putfield 75, 3) := by decide +kernel
theorem dX10_init_172 : decode cX10_init 172 = .ok (.aload_n 0, 1) := by decide +kernel
theorem dX10_init_173 : decode cX10_init 173 = .ok (.bipush 8, 2) := by decide +kernel
theorem dX10_init_175 : decode cX10_init 175 = .ok (.newarray .int, 2) := by decide +kernel
theorem dX10_init_177 : decode cX10_init 177 = .ok (.putfield 78, 3) := by decide +kernel
theorem dX10_init_180 : decode cX10_init 180 = .ok (.aload_n 0, 1) := by decide +kernel
theorem dX10_init_181 : decode cX10_init 181 = .ok (.bipush 8, 2) := by decide +kernel
theorem dX10_init_183 : decode cX10_init 183 = .ok (.newarray .int, 2) := by decide +kernel
theorem dX10_init_185 : decode cX10_init 185 = .ok (.putfield 81, 3) := by decide +kernel
theorem dX10_init_188 : decode cX10_init 188 = .ok (.aload_n 0, 1) := by decide +kernel
theorem dX10_init_189 : decode cX10_init 189 = .ok (.bipush 8, 2) := by decide +kernel
theorem dX10_init_191 : decode cX10_init 191 = .ok (.newarray .int, 2) := by decide +kernel
theorem dX10_init_193 : decode cX10_init 193 = .ok (.putfield 84, 3) := by decide +kernel
theorem dX10_init_196 : decode cX10_init 196 = .ok (.aload_n 0, 1) := by decide +kernel
theorem dX10_init_197 : decode cX10_init 197 = .ok (.bipush 8, 2) := by decide +kernel
theorem dX10_init_199 : decode cX10_init 199 = .ok (.newarray .int, 2) := by decide +kernel
theorem dX10_init_201 : decode cX10_init 201 = .ok (.putfield 87, 3) := by decide +kernel
theorem dX10_init_204 : decode cX10_init 204 = .ok (.aload_n 0, 1) := by decide +kernel
theorem dX10_init_205 : decode cX10_init 205 = .ok (.bipush 8, 2) := by decide +kernel
theorem dX10_init_207 : decode cX10_init 207 = .ok (.newarray .int, 2) := by decide +kernel
theorem dX10_init_209 : decode cX10_init 209 = .ok (.putfield 90, 3) := by decide +kernel
theorem dX10_init_212 : decode cX10_init 212 = .ok (.aload_n 0, 1) := by decide +kernel
theorem dX10_init_213 : decode cX10_init 213 = .ok (.sipush 16040, 3) := by decide +kernel
theorem dX10_init_216 : decode cX10_init 216 = .ok (.newarray .int, 2) := by decide +kernel
theorem dX10_init_218 : decode cX10_init 218 = .ok (.putfield 93, 3) := by decide +kernel
theorem dX10_init_221 : decode cX10_init 221 = .ok (.aload_n 0, 1) := by decide +kernel
theorem dX10_init_222 : decode cX10_init 222 = .ok (.sipush 16040, 3) := by decide +kernel
theorem dX10_init_225 : decode cX10_init 225 = .ok (.newarray .int, 2) := by decide +kernel
theorem dX10_init_227 : decode cX10_init 227 = .ok (.putfield 96, 3) := by decide +kernel
theorem dX10_init_230 : decode cX10_init 230 = .ok (.return_, 1) := by decide +kernel
theorem dX10_thrown_0 : decode cX10_thrown 0 = .ok (.aload_n 0, 1) := by decide +kernel
theorem dX10_thrown_1 : decode cX10_thrown 1 = .ok (.getfield 99, 3) := by decide +kernel
theorem dX10_thrown_4 : decode cX10_thrown 4 = .ok (.ireturn, 1) := by decide +kernel
theorem dX10_refuses_0 : decode cX10_refuses 0 = .ok (.aload_n 0, 1) := by decide +kernel
theorem dX10_refuses_1 : decode cX10_refuses 1 = .ok (.iload_n 1, 1) := by decide +kernel
theorem dX10_refuses_2 : decode cX10_refuses 2 = .ok (.putfield 99, 3) := by decide +kernel
theorem dX10_refuses_5 : decode cX10_refuses 5 = .ok (.iload_n 1, 1) := by decide +kernel
theorem dX10_refuses_6 : decode cX10_refuses 6 = .ok (.ifCond .le 7, 3) := by decide +kernel
theorem dX10_refuses_9 : decode cX10_refuses 9 = .ok (.iconst 1, 1) := by decide +kernel
theorem dX10_refuses_10 : decode cX10_refuses 10 = .ok (.goto 4, 3) := by decide +kernel
theorem dX10_refuses_13 : decode cX10_refuses 13 = .ok (.iconst 0, 1) := by decide +kernel
theorem dX10_refuses_14 : decode cX10_refuses 14 = .ok (.ireturn, 1) := by decide +kernel
theorem dX10_isWay_0 : decode cX10_isWay 0 = .ok (.iload_n 1, 1) := by decide +kernel
theorem dX10_isWay_1 : decode cX10_isWay 1 = .ok (.ifCond .lt 15, 3) := by decide +kernel
theorem dX10_isWay_4 : decode cX10_isWay 4 = .ok (.iload_n 1, 1) := by decide +kernel
theorem dX10_isWay_5 : decode cX10_isWay 5 = .ok (.aload_n 0, 1) := by decide +kernel
theorem dX10_isWay_6 : decode cX10_isWay 6 = .ok (.getfield 102, 3) := by decide +kernel
theorem dX10_isWay_9 : decode cX10_isWay 9 = .ok (.if_icmp .ge 7, 3) := by decide +kernel
theorem dX10_isWay_12 : decode cX10_isWay 12 = .ok (.iconst 1, 1) := by decide +kernel
theorem dX10_isWay_13 : decode cX10_isWay 13 = .ok (.goto 4, 3) := by decide +kernel
theorem dX10_isWay_16 : decode cX10_isWay 16 = .ok (.iconst 0, 1) := by decide +kernel
theorem dX10_isWay_17 : decode cX10_isWay 17 = .ok (.ireturn, 1) := by decide +kernel
theorem dX10_add_0 : decode cX10_add 0 = .ok (.aload_n 0, 1) := by decide +kernel
theorem dX10_add_1 : decode cX10_add 1 = .ok (.getfield 7, 3) := by decide +kernel
theorem dX10_add_4 : decode cX10_add 4 = .ok (.aload_n 0, 1) := by decide +kernel
theorem dX10_add_5 : decode cX10_add 5 = .ok (.getfield 102, 3) := by decide +kernel
theorem dX10_add_8 : decode cX10_add 8 = .ok (.iload_n 1, 1) := by decide +kernel
theorem dX10_add_9 : decode cX10_add 9 = .ok (.iastore, 1) := by decide +kernel
theorem dX10_add_10 : decode cX10_add 10 = .ok (.aload_n 0, 1) := by decide +kernel
theorem dX10_add_11 : decode cX10_add 11 = .ok (.getfield 13, 3) := by decide +kernel
theorem dX10_add_14 : decode cX10_add 14 = .ok (.aload_n 0, 1) := by decide +kernel
theorem dX10_add_15 : decode cX10_add 15 = .ok (.getfield 102, 3) := by decide +kernel
theorem dX10_add_18 : decode cX10_add 18 = .ok (.iload_n 2, 1) := by decide +kernel
theorem dX10_add_19 : decode cX10_add 19 = .ok (.iastore, 1) := by decide +kernel
theorem dX10_add_20 : decode cX10_add 20 = .ok (.aload_n 0, 1) := by decide +kernel
theorem dX10_add_21 : decode cX10_add 21 = .ok (.getfield 16, 3) := by decide +kernel
theorem dX10_add_24 : decode cX10_add 24 = .ok (.aload_n 0, 1) := by decide +kernel
theorem dX10_add_25 : decode cX10_add 25 = .ok (.getfield 102, 3) := by decide +kernel
theorem dX10_add_28 : decode cX10_add 28 = .ok (.iload_n 3, 1) := by decide +kernel
theorem dX10_add_29 : decode cX10_add 29 = .ok (.iastore, 1) := by decide +kernel
theorem dX10_add_30 : decode cX10_add 30 = .ok (.aload_n 0, 1) := by decide +kernel
theorem dX10_add_31 : decode cX10_add 31 = .ok (.getfield 19, 3) := by decide +kernel
theorem dX10_add_34 : decode cX10_add 34 = .ok (.aload_n 0, 1) := by decide +kernel
theorem dX10_add_35 : decode cX10_add 35 = .ok (.getfield 102, 3) := by decide +kernel
theorem dX10_add_38 : decode cX10_add 38 = .ok (.iload 4, 2) := by decide +kernel
theorem dX10_add_40 : decode cX10_add 40 = .ok (.iastore, 1) := by decide +kernel
theorem dX10_add_41 : decode cX10_add 41 = .ok (.aload_n 0, 1) := by decide +kernel
theorem dX10_add_42 : decode cX10_add 42 = .ok (.getfield 22, 3) := by decide +kernel
theorem dX10_add_45 : decode cX10_add 45 = .ok (.aload_n 0, 1) := by decide +kernel
theorem dX10_add_46 : decode cX10_add 46 = .ok (.getfield 102, 3) := by decide +kernel
theorem dX10_add_49 : decode cX10_add 49 = .ok (.iload 5, 2) := by decide +kernel
theorem dX10_add_51 : decode cX10_add 51 = .ok (.iastore, 1) := by decide +kernel
theorem dX10_add_52 : decode cX10_add 52 = .ok (.aload_n 0, 1) := by decide +kernel
theorem dX10_add_53 : decode cX10_add 53 = .ok (.dup, 1) := by decide +kernel
theorem dX10_add_54 : decode cX10_add 54 = .ok (.getfield 102, 3) := by decide +kernel
theorem dX10_add_57 : decode cX10_add 57 = .ok (.iconst 1, 1) := by decide +kernel
theorem dX10_add_58 : decode cX10_add 58 = .ok (.iadd, 1) := by decide +kernel
theorem dX10_add_59 : decode cX10_add 59 = .ok (.putfield 102, 3) := by decide +kernel
theorem dX10_add_62 : decode cX10_add 62 = .ok (.aload_n 0, 1) := by decide +kernel
theorem dX10_add_63 : decode cX10_add 63 = .ok (.getfield 102, 3) := by decide +kernel
theorem dX10_add_66 : decode cX10_add 66 = .ok (.iconst 1, 1) := by decide +kernel
theorem dX10_add_67 : decode cX10_add 67 = .ok (.isub, 1) := by decide +kernel
theorem dX10_add_68 : decode cX10_add 68 = .ok (.ireturn, 1) := by decide +kernel
theorem dX10_coding_0 : decode cX10_coding 0 = .ok (.iload_n 1, 1) := by decide +kernel
theorem dX10_coding_1 : decode cX10_coding 1 = .ok (.iconst 1, 1) := by decide +kernel
theorem dX10_coding_2 : decode cX10_coding 2 = .ok (.if_icmp .lt 44, 3) := by decide +kernel
theorem dX10_coding_5 : decode cX10_coding 5 = .ok (.iload_n 1, 1) := by decide +kernel
theorem dX10_coding_6 : decode cX10_coding 6 = .ok (.iconst 5, 1) := by decide +kernel
theorem dX10_coding_7 : decode cX10_coding 7 = .ok (.if_icmp .gt 39, 3) := by decide +kernel
theorem dX10_coding_10 : decode cX10_coding 10 = .ok (.iload_n 2, 1) := by decide +kernel
theorem dX10_coding_11 : decode cX10_coding 11 = .ok (.iconst 1, 1) := by decide +kernel
theorem dX10_coding_12 : decode cX10_coding 12 = .ok (.if_icmp .lt 34, 3) := by decide +kernel
theorem dX10_coding_15 : decode cX10_coding 15 = .ok (.iload_n 2, 1) := by decide +kernel
theorem dX10_coding_16 : decode cX10_coding 16 = .ok (.sipush 256, 3) := by decide +kernel
theorem dX10_coding_19 : decode cX10_coding 19 = .ok (.if_icmp .gt 27, 3) := by decide +kernel
theorem dX10_coding_22 : decode cX10_coding 22 = .ok (.iload_n 3, 1) := by decide +kernel
theorem dX10_coding_23 : decode cX10_coding 23 = .ok (.ifCond .lt 23, 3) := by decide +kernel
theorem dX10_coding_26 : decode cX10_coding 26 = .ok (.iload_n 3, 1) := by decide +kernel
theorem dX10_coding_27 : decode cX10_coding 27 = .ok (.iconst 2, 1) := by decide +kernel
theorem dX10_coding_28 : decode cX10_coding 28 = .ok (.if_icmp .gt 18, 3) := by decide +kernel
theorem dX10_coding_31 : decode cX10_coding 31 = .ok (.iload 4, 2) := by decide +kernel
theorem dX10_coding_33 : decode cX10_coding 33 = .ok (.ifCond .lt 13, 3) := by decide +kernel
theorem dX10_coding_36 : decode cX10_coding 36 = .ok (.iload 4, 2) := by decide +kernel
theorem dX10_coding_38 : decode cX10_coding 38 = .ok (.iconst 1, 1) := by decide +kernel
theorem dX10_coding_39 : decode cX10_coding 39 = .ok (.if_icmp .gt 7, 3) := by decide +kernel
theorem dX10_coding_42 : decode cX10_coding 42 = .ok (.iconst 1, 1) := by decide +kernel
theorem dX10_coding_43 : decode cX10_coding 43 = .ok (.goto 4, 3) := by decide +kernel
theorem dX10_coding_46 : decode cX10_coding 46 = .ok (.iconst 0, 1) := by decide +kernel
theorem dX10_coding_47 : decode cX10_coding 47 = .ok (.istore 5, 2) := by decide +kernel
theorem dX10_coding_49 : decode cX10_coding 49 = .ok (.aload_n 0, 1) := by decide +kernel
theorem dX10_coding_50 : decode cX10_coding 50 = .ok (.iload 5, 2) := by decide +kernel
theorem dX10_coding_52 : decode cX10_coding 52 = .ok (.ifCond .ne 7, 3) := by decide +kernel
theorem dX10_coding_55 : decode cX10_coding 55 = .ok (.iconst 1, 1) := by decide +kernel
theorem dX10_coding_56 : decode cX10_coding 56 = .ok (.goto 17, 3) := by decide +kernel
theorem dX10_coding_59 : decode cX10_coding 59 = .ok (.aload_n 0, 1) := by decide +kernel
theorem dX10_coding_60 : decode cX10_coding 60 = .ok (.getfield 102, 3) := by decide +kernel
theorem dX10_coding_63 : decode cX10_coding 63 = .ok (.bipush 40, 2) := by decide +kernel
theorem dX10_coding_65 : decode cX10_coding 65 = .ok (.if_icmp .ne 7, 3) := by decide +kernel
theorem dX10_coding_68 : decode cX10_coding 68 = .ok (.iconst 2, 1) := by decide +kernel
theorem dX10_coding_69 : decode cX10_coding 69 = .ok (.goto 4, 3) := by decide +kernel
theorem dX10_coding_72 : decode cX10_coding 72 = .ok (.iconst 0, 1) := by decide +kernel
theorem dX10_coding_73 : decode cX10_coding 73 = .ok (.invokevirtual 105, 3) := by decide +kernel
theorem dX10_coding_76 : decode cX10_coding 76 = .ok (.ifCond .eq 5, 3) := by decide +kernel
theorem dX10_coding_79 : decode cX10_coding 79 = .ok (.iconst 0, 1) := by decide +kernel
theorem dX10_coding_80 : decode cX10_coding 80 = .ok (.ireturn, 1) := by decide +kernel
theorem dX10_coding_81 : decode cX10_coding 81 = .ok (.aload_n 0, 1) := by decide +kernel
theorem dX10_coding_82 : decode cX10_coding 82 = .ok (.getfield 25, 3) := by decide +kernel
theorem dX10_coding_85 : decode cX10_coding 85 = .ok (.aload_n 0, 1) := by decide +kernel
theorem dX10_coding_86 : decode cX10_coding 86 = .ok (.getfield 102, 3) := by decide +kernel
theorem dX10_coding_89 : decode cX10_coding 89 = .ok (.iconst 0, 1) := by decide +kernel
theorem dX10_coding_90 : decode cX10_coding 90 = .ok (.iastore, 1) := by decide +kernel
theorem dX10_coding_91 : decode cX10_coding 91 = .ok (.aload_n 0, 1) := by decide +kernel
theorem dX10_coding_92 : decode cX10_coding 92 = .ok (.iconst 0, 1) := by decide +kernel
theorem dX10_coding_93 : decode cX10_coding 93 = .ok (.iload_n 1, 1) := by decide +kernel
theorem dX10_coding_94 : decode cX10_coding 94 = .ok (.iload_n 2, 1) := by decide +kernel
theorem dX10_coding_95 : decode cX10_coding 95 = .ok (.iload_n 3, 1) := by decide +kernel
theorem dX10_coding_96 : decode cX10_coding 96 = .ok (.iload 4, 2) := by decide +kernel
theorem dX10_coding_98 : decode cX10_coding 98 = .ok (.invokevirtual 109, 3) := by decide +kernel
theorem dX10_coding_101 : decode cX10_coding 101 = .ok (.ireturn, 1) := by decide +kernel
theorem dX10_deep_0 : decode cX10_deep 0 = .ok (.aload_n 0, 1) := by decide +kernel
theorem dX10_deep_1 : decode cX10_deep 1 = .ok (.getfield 25, 3) := by decide +kernel
theorem dX10_deep_4 : decode cX10_deep 4 = .ok (.iload_n 1, 1) := by decide +kernel
theorem dX10_deep_5 : decode cX10_deep 5 = .ok (.iaload, 1) := by decide +kernel
theorem dX10_deep_6 : decode cX10_deep 6 = .ok (.aload_n 0, 1) := by decide +kernel
theorem dX10_deep_7 : decode cX10_deep 7 = .ok (.getfield 25, 3) := by decide +kernel
theorem dX10_deep_10 : decode cX10_deep 10 = .ok (.iload_n 2, 1) := by decide +kernel
theorem dX10_deep_11 : decode cX10_deep 11 = .ok (.iaload, 1) := by decide +kernel
theorem dX10_deep_12 : decode cX10_deep 12 = .ok (.if_icmp .le 12, 3) := by decide +kernel
theorem dX10_deep_15 : decode cX10_deep 15 = .ok (.aload_n 0, 1) := by decide +kernel
theorem dX10_deep_16 : decode cX10_deep 16 = .ok (.getfield 25, 3) := by decide +kernel
theorem dX10_deep_19 : decode cX10_deep 19 = .ok (.iload_n 1, 1) := by decide +kernel
theorem dX10_deep_20 : decode cX10_deep 20 = .ok (.iaload, 1) := by decide +kernel
theorem dX10_deep_21 : decode cX10_deep 21 = .ok (.goto 9, 3) := by decide +kernel
theorem dX10_deep_24 : decode cX10_deep 24 = .ok (.aload_n 0, 1) := by decide +kernel
theorem dX10_deep_25 : decode cX10_deep 25 = .ok (.getfield 25, 3) := by decide +kernel
theorem dX10_deep_28 : decode cX10_deep 28 = .ok (.iload_n 2, 1) := by decide +kernel
theorem dX10_deep_29 : decode cX10_deep 29 = .ok (.iaload, 1) := by decide +kernel
theorem dX10_deep_30 : decode cX10_deep 30 = .ok (.ireturn, 1) := by decide +kernel
theorem dX10_run_0 : decode cX10_run 0 = .ok (.aload_n 0, 1) := by decide +kernel
theorem dX10_run_1 : decode cX10_run 1 = .ok (.iload_n 1, 1) := by decide +kernel
theorem dX10_run_2 : decode cX10_run 2 = .ok (.ifCond .lt 26, 3) := by decide +kernel
theorem dX10_run_5 : decode cX10_run 5 = .ok (.iload_n 1, 1) := by decide +kernel
theorem dX10_run_6 : decode cX10_run 6 = .ok (.sipush 400, 3) := by decide +kernel
theorem dX10_run_9 : decode cX10_run 9 = .ok (.if_icmp .gt 19, 3) := by decide +kernel
theorem dX10_run_12 : decode cX10_run 12 = .ok (.aload_n 0, 1) := by decide +kernel
theorem dX10_run_13 : decode cX10_run 13 = .ok (.iload_n 2, 1) := by decide +kernel
theorem dX10_run_14 : decode cX10_run 14 = .ok (.invokevirtual 113, 3) := by decide +kernel
theorem dX10_run_17 : decode cX10_run 17 = .ok (.ifCond .eq 11, 3) := by decide +kernel
theorem dX10_run_20 : decode cX10_run 20 = .ok (.aload_n 0, 1) := by decide +kernel
theorem dX10_run_21 : decode cX10_run 21 = .ok (.iload_n 3, 1) := by decide +kernel
theorem dX10_run_22 : decode cX10_run 22 = .ok (.invokevirtual 113, 3) := by decide +kernel
theorem dX10_run_25 : decode cX10_run 25 = .ok (.ifCond .ne 7, 3) := by decide +kernel
theorem dX10_run_28 : decode cX10_run 28 = .ok (.iconst 1, 1) := by decide +kernel
theorem dX10_run_29 : decode cX10_run 29 = .ok (.goto 4, 3) := by decide +kernel
theorem dX10_run_32 : decode cX10_run 32 = .ok (.iconst 0, 1) := by decide +kernel
theorem dX10_run_33 : decode cX10_run 33 = .ok (.invokevirtual 105, 3) := by decide +kernel
theorem dX10_run_36 : decode cX10_run 36 = .ok (.ifCond .eq 5, 3) := by decide +kernel
theorem dX10_run_39 : decode cX10_run 39 = .ok (.iconst 0, 1) := by decide +kernel
theorem dX10_run_40 : decode cX10_run 40 = .ok (.ireturn, 1) := by decide +kernel
theorem dX10_run_41 : decode cX10_run 41 = .ok (.aload_n 0, 1) := by decide +kernel
theorem dX10_run_42 : decode cX10_run 42 = .ok (.aload_n 0, 1) := by decide +kernel
theorem dX10_run_43 : decode cX10_run 43 = .ok (.getfield 102, 3) := by decide +kernel
theorem dX10_run_46 : decode cX10_run 46 = .ok (.bipush 40, 2) := by decide +kernel
theorem dX10_run_48 : decode cX10_run 48 = .ok (.if_icmp .eq 13, 3) := by decide +kernel
theorem dX10_run_51 : decode cX10_run 51 = .ok (.aload_n 0, 1) := by decide +kernel
theorem dX10_run_52 : decode cX10_run 52 = .ok (.iload_n 2, 1) := by decide +kernel
theorem dX10_run_53 : decode cX10_run 53 = .ok (.iload_n 3, 1) := by decide +kernel
theorem dX10_run_54 : decode cX10_run 54 = .ok (.invokevirtual 116, 3) := by decide +kernel
theorem dX10_run_57 : decode cX10_run 57 = .ok (.iconst 4, 1) := by decide +kernel
theorem dX10_run_58 : decode cX10_run 58 = .ok (.if_icmp .ne 7, 3) := by decide +kernel
theorem dX10_run_61 : decode cX10_run 61 = .ok (.iconst 2, 1) := by decide +kernel
theorem dX10_run_62 : decode cX10_run 62 = .ok (.goto 4, 3) := by decide +kernel
theorem dX10_run_65 : decode cX10_run 65 = .ok (.iconst 0, 1) := by decide +kernel
theorem dX10_run_66 : decode cX10_run 66 = .ok (.invokevirtual 105, 3) := by decide +kernel
theorem dX10_run_69 : decode cX10_run 69 = .ok (.ifCond .eq 5, 3) := by decide +kernel
theorem dX10_run_72 : decode cX10_run 72 = .ok (.iconst 0, 1) := by decide +kernel
theorem dX10_run_73 : decode cX10_run 73 = .ok (.ireturn, 1) := by decide +kernel
theorem dX10_run_74 : decode cX10_run 74 = .ok (.aload_n 0, 1) := by decide +kernel
theorem dX10_run_75 : decode cX10_run 75 = .ok (.getfield 25, 3) := by decide +kernel
theorem dX10_run_78 : decode cX10_run 78 = .ok (.aload_n 0, 1) := by decide +kernel
theorem dX10_run_79 : decode cX10_run 79 = .ok (.getfield 102, 3) := by decide +kernel
theorem dX10_run_82 : decode cX10_run 82 = .ok (.iconst 1, 1) := by decide +kernel
theorem dX10_run_83 : decode cX10_run 83 = .ok (.aload_n 0, 1) := by decide +kernel
theorem dX10_run_84 : decode cX10_run 84 = .ok (.iload_n 2, 1) := by decide +kernel
theorem dX10_run_85 : decode cX10_run 85 = .ok (.iload_n 3, 1) := by decide +kernel
theorem dX10_run_86 : decode cX10_run 86 = .ok (.invokevirtual 116, 3) := by decide +kernel
theorem dX10_run_89 : decode cX10_run 89 = .ok (.iadd, 1) := by decide +kernel
theorem dX10_run_90 : decode cX10_run 90 = .ok (.iastore, 1) := by decide +kernel
theorem dX10_run_91 : decode cX10_run 91 = .ok (.aload_n 0, 1) := by decide +kernel
theorem dX10_run_92 : decode cX10_run 92 = .ok (.iconst 1, 1) := by decide +kernel
theorem dX10_run_93 : decode cX10_run 93 = .ok (.iload_n 1, 1) := by decide +kernel
theorem dX10_run_94 : decode cX10_run 94 = .ok (.iload_n 2, 1) := by decide +kernel
theorem dX10_run_95 : decode cX10_run 95 = .ok (.iload_n 3, 1) := by decide +kernel
theorem dX10_run_96 : decode cX10_run 96 = .ok (.iconst 0, 1) := by decide +kernel
theorem dX10_run_97 : decode cX10_run 97 = .ok (.invokevirtual 109, 3) := by decide +kernel
theorem dX10_run_100 : decode cX10_run 100 = .ok (.ireturn, 1) := by decide +kernel
theorem dX10_popular_0 : decode cX10_popular 0 = .ok (.aload_n 0, 1) := by decide +kernel
theorem dX10_popular_1 : decode cX10_popular 1 = .ok (.iload_n 1, 1) := by decide +kernel
theorem dX10_popular_2 : decode cX10_popular 2 = .ok (.iconst 1, 1) := by decide +kernel
theorem dX10_popular_3 : decode cX10_popular 3 = .ok (.if_icmp .lt 34, 3) := by decide +kernel
theorem dX10_popular_6 : decode cX10_popular 6 = .ok (.iload_n 1, 1) := by decide +kernel
theorem dX10_popular_7 : decode cX10_popular 7 = .ok (.bipush 50, 2) := by decide +kernel
theorem dX10_popular_9 : decode cX10_popular 9 = .ok (.if_icmp .gt 28, 3) := by decide +kernel
theorem dX10_popular_12 : decode cX10_popular 12 = .ok (.aload_n 0, 1) := by decide +kernel
theorem dX10_popular_13 : decode cX10_popular 13 = .ok (.iload_n 2, 1) := by decide +kernel
theorem dX10_popular_14 : decode cX10_popular 14 = .ok (.invokevirtual 113, 3) := by decide +kernel
theorem dX10_popular_17 : decode cX10_popular 17 = .ok (.ifCond .eq 20, 3) := by decide +kernel
theorem dX10_popular_20 : decode cX10_popular 20 = .ok (.aload_n 0, 1) := by decide +kernel
theorem dX10_popular_21 : decode cX10_popular 21 = .ok (.iload_n 3, 1) := by decide +kernel
theorem dX10_popular_22 : decode cX10_popular 22 = .ok (.invokevirtual 113, 3) := by decide +kernel
theorem dX10_popular_25 : decode cX10_popular 25 = .ok (.ifCond .eq 12, 3) := by decide +kernel
theorem dX10_popular_28 : decode cX10_popular 28 = .ok (.aload_n 0, 1) := by decide +kernel
theorem dX10_popular_29 : decode cX10_popular 29 = .ok (.iload 4, 2) := by decide +kernel
theorem dX10_popular_31 : decode cX10_popular 31 = .ok (.invokevirtual 113, 3) := by decide +kernel
theorem dX10_popular_34 : decode cX10_popular 34 = .ok (.ifCond .ne 7, 3) := by decide +kernel
theorem dX10_popular_37 : decode cX10_popular 37 = .ok (.iconst 1, 1) := by decide +kernel
theorem dX10_popular_38 : decode cX10_popular 38 = .ok (.goto 4, 3) := by decide +kernel
theorem dX10_popular_41 : decode cX10_popular 41 = .ok (.iconst 0, 1) := by decide +kernel
theorem dX10_popular_42 : decode cX10_popular 42 = .ok (.invokevirtual 105, 3) := by decide +kernel
theorem dX10_popular_45 : decode cX10_popular 45 = .ok (.ifCond .eq 5, 3) := by decide +kernel
theorem dX10_popular_48 : decode cX10_popular 48 = .ok (.iconst 0, 1) := by decide +kernel
theorem dX10_popular_49 : decode cX10_popular 49 = .ok (.ireturn, 1) := by decide +kernel
theorem dX10_popular_50 : decode cX10_popular 50 = .ok (.aload_n 0, 1) := by decide +kernel
theorem dX10_popular_51 : decode cX10_popular 51 = .ok (.iload_n 2, 1) := by decide +kernel
theorem dX10_popular_52 : decode cX10_popular 52 = .ok (.iload_n 3, 1) := by decide +kernel
theorem dX10_popular_53 : decode cX10_popular 53 = .ok (.invokevirtual 116, 3) := by decide +kernel
theorem dX10_popular_56 : decode cX10_popular 56 = .ok (.aload_n 0, 1) := by decide +kernel
theorem dX10_popular_57 : decode cX10_popular 57 = .ok (.getfield 25, 3) := by decide +kernel
theorem dX10_popular_60 : decode cX10_popular 60 = .ok (.iload 4, 2) := by decide +kernel
theorem dX10_popular_62 : decode cX10_popular 62 = .ok (.iaload, 1) := by decide +kernel
theorem dX10_popular_63 : decode cX10_popular 63 = .ok (.if_icmp .le 12, 3) := by decide +kernel
theorem dX10_popular_66 : decode cX10_popular 66 = .ok (.aload_n 0, 1) := by decide +kernel
theorem dX10_popular_67 : decode cX10_popular 67 = .ok (.iload_n 2, 1) := by decide +kernel
theorem dX10_popular_68 : decode cX10_popular 68 = .ok (.iload_n 3, 1) := by decide +kernel
theorem dX10_popular_69 : decode cX10_popular 69 = .ok (.invokevirtual 116, 3) := by decide +kernel
theorem dX10_popular_72 : decode cX10_popular 72 = .ok (.goto 10, 3) := by decide +kernel
theorem dX10_popular_75 : decode cX10_popular 75 = .ok (.aload_n 0, 1) := by decide +kernel
theorem dX10_popular_76 : decode cX10_popular 76 = .ok (.getfield 25, 3) := by decide +kernel
theorem dX10_popular_79 : decode cX10_popular 79 = .ok (.iload 4, 2) := by decide +kernel
theorem dX10_popular_81 : decode cX10_popular 81 = .ok (.iaload, 1) := by decide +kernel
theorem dX10_popular_82 : decode cX10_popular 82 = .ok (.istore 5, 2) := by decide +kernel
theorem dX10_popular_84 : decode cX10_popular 84 = .ok (.aload_n 0, 1) := by decide +kernel
theorem dX10_popular_85 : decode cX10_popular 85 = .ok (.aload_n 0, 1) := by decide +kernel
theorem dX10_popular_86 : decode cX10_popular 86 = .ok (.getfield 102, 3) := by decide +kernel
theorem dX10_popular_89 : decode cX10_popular 89 = .ok (.bipush 40, 2) := by decide +kernel
theorem dX10_popular_91 : decode cX10_popular 91 = .ok (.if_icmp .eq 9, 3) := by decide +kernel
theorem dX10_popular_94 : decode cX10_popular 94 = .ok (.iload 5, 2) := by decide +kernel
theorem dX10_popular_96 : decode cX10_popular 96 = .ok (.iconst 4, 1) := by decide +kernel
theorem dX10_popular_97 : decode cX10_popular 97 = .ok (.if_icmp .ne 7, 3) := by decide +kernel
theorem dX10_popular_100 : decode cX10_popular 100 = .ok (.iconst 2, 1) := by decide +kernel
theorem dX10_popular_101 : decode cX10_popular 101 = .ok (.goto 4, 3) := by decide +kernel
theorem dX10_popular_104 : decode cX10_popular 104 = .ok (.iconst 0, 1) := by decide +kernel
theorem dX10_popular_105 : decode cX10_popular 105 = .ok (.invokevirtual 105, 3) := by decide +kernel
theorem dX10_popular_108 : decode cX10_popular 108 = .ok (.ifCond .eq 5, 3) := by decide +kernel
theorem dX10_popular_111 : decode cX10_popular 111 = .ok (.iconst 0, 1) := by decide +kernel
theorem dX10_popular_112 : decode cX10_popular 112 = .ok (.ireturn, 1) := by decide +kernel
theorem dX10_popular_113 : decode cX10_popular 113 = .ok (.aload_n 0, 1) := by decide +kernel
theorem dX10_popular_114 : decode cX10_popular 114 = .ok (.getfield 25, 3) := by decide +kernel
theorem dX10_popular_117 : decode cX10_popular 117 = .ok (.aload_n 0, 1) := by decide +kernel
theorem dX10_popular_118 : decode cX10_popular 118 = .ok (.getfield 102, 3) := by decide +kernel
theorem dX10_popular_121 : decode cX10_popular 121 = .ok (.iconst 1, 1) := by decide +kernel
theorem dX10_popular_122 : decode cX10_popular 122 = .ok (.iload 5, 2) := by decide +kernel
theorem dX10_popular_124 : decode cX10_popular 124 = .ok (.iadd, 1) := by decide +kernel
theorem dX10_popular_125 : decode cX10_popular 125 = .ok (.iastore, 1) := by decide +kernel
theorem dX10_popular_126 : decode cX10_popular 126 = .ok (.aload_n 0, 1) := by decide +kernel
theorem dX10_popular_127 : decode cX10_popular 127 = .ok (.iconst 2, 1) := by decide +kernel
theorem dX10_popular_128 : decode cX10_popular 128 = .ok (.iload_n 1, 1) := by decide +kernel
theorem dX10_popular_129 : decode cX10_popular 129 = .ok (.iload_n 2, 1) := by decide +kernel
theorem dX10_popular_130 : decode cX10_popular 130 = .ok (.iload_n 3, 1) := by decide +kernel
theorem dX10_popular_131 : decode cX10_popular 131 = .ok (.iload 4, 2) := by decide +kernel
theorem dX10_popular_133 : decode cX10_popular 133 = .ok (.invokevirtual 109, 3) := by decide +kernel
theorem dX10_popular_136 : decode cX10_popular 136 = .ok (.ireturn, 1) := by decide +kernel
theorem dX10_number_0 : decode cX10_number 0 = .ok (.aload_n 0, 1) := by decide +kernel
theorem dX10_number_1 : decode cX10_number 1 = .ok (.aload_n 0, 1) := by decide +kernel
theorem dX10_number_2 : decode cX10_number 2 = .ok (.getfield 120, 3) := by decide +kernel
theorem dX10_number_5 : decode cX10_number 5 = .ok (.sipush 400, 3) := by decide +kernel
theorem dX10_number_8 : decode cX10_number 8 = .ok (.if_icmp .ne 7, 3) := by decide +kernel
theorem dX10_number_11 : decode cX10_number 11 = .ok (.iconst 1, 1) := by decide +kernel
theorem dX10_number_12 : decode cX10_number 12 = .ok (.goto 4, 3) := by decide +kernel
theorem dX10_number_15 : decode cX10_number 15 = .ok (.iconst 0, 1) := by decide +kernel
theorem dX10_number_16 : decode cX10_number 16 = .ok (.invokevirtual 105, 3) := by decide +kernel
theorem dX10_number_19 : decode cX10_number 19 = .ok (.ifCond .eq 5, 3) := by decide +kernel
theorem dX10_number_22 : decode cX10_number 22 = .ok (.iconst 0, 1) := by decide +kernel
theorem dX10_number_23 : decode cX10_number 23 = .ok (.ireturn, 1) := by decide +kernel
theorem dX10_number_24 : decode cX10_number 24 = .ok (.aload_n 0, 1) := by decide +kernel
theorem dX10_number_25 : decode cX10_number 25 = .ok (.getfield 28, 3) := by decide +kernel
theorem dX10_number_28 : decode cX10_number 28 = .ok (.aload_n 0, 1) := by decide +kernel
theorem dX10_number_29 : decode cX10_number 29 = .ok (.getfield 120, 3) := by decide +kernel
theorem dX10_number_32 : decode cX10_number 32 = .ok (.iload_n 1, 1) := by decide +kernel
theorem dX10_number_33 : decode cX10_number 33 = .ok (.iastore, 1) := by decide +kernel
theorem dX10_number_34 : decode cX10_number 34 = .ok (.aload_n 0, 1) := by decide +kernel
theorem dX10_number_35 : decode cX10_number 35 = .ok (.dup, 1) := by decide +kernel
theorem dX10_number_36 : decode cX10_number 36 = .ok (.getfield 120, 3) := by decide +kernel
theorem dX10_number_39 : decode cX10_number 39 = .ok (.iconst 1, 1) := by decide +kernel
theorem dX10_number_40 : decode cX10_number 40 = .ok (.iadd, 1) := by decide +kernel
theorem dX10_number_41 : decode cX10_number 41 = .ok (.putfield 120, 3) := by decide +kernel
theorem dX10_number_44 : decode cX10_number 44 = .ok (.aload_n 0, 1) := by decide +kernel
theorem dX10_number_45 : decode cX10_number 45 = .ok (.getfield 120, 3) := by decide +kernel
theorem dX10_number_48 : decode cX10_number 48 = .ok (.ireturn, 1) := by decide +kernel
theorem dX10_clear_0 : decode cX10_clear 0 = .ok (.aload_n 0, 1) := by decide +kernel
theorem dX10_clear_1 : decode cX10_clear 1 = .ok (.iconst 0, 1) := by decide +kernel
theorem dX10_clear_2 : decode cX10_clear 2 = .ok (.putfield 99, 3) := by decide +kernel
theorem dX10_clear_5 : decode cX10_clear 5 = .ok (.aload_n 0, 1) := by decide +kernel
theorem dX10_clear_6 : decode cX10_clear 6 = .ok (.getfield 120, 3) := by decide +kernel
theorem dX10_clear_9 : decode cX10_clear 9 = .ok (.istore_n 1, 1) := by decide +kernel
theorem dX10_clear_10 : decode cX10_clear 10 = .ok (.aload_n 0, 1) := by decide +kernel
theorem dX10_clear_11 : decode cX10_clear 11 = .ok (.iconst 0, 1) := by decide +kernel
theorem dX10_clear_12 : decode cX10_clear 12 = .ok (.putfield 120, 3) := by decide +kernel
theorem dX10_clear_15 : decode cX10_clear 15 = .ok (.iload_n 1, 1) := by decide +kernel
theorem dX10_clear_16 : decode cX10_clear 16 = .ok (.ireturn, 1) := by decide +kernel
end
section
theorem dX10_row_0 : decode cX10_row 0 = .ok (.aload_n 0, 1) := by decide +kernel
theorem dX10_row_1 : decode cX10_row 1 = .ok (.iconst 0, 1) := by decide +kernel
theorem dX10_row_2 : decode cX10_row 2 = .ok (.putfield 99, 3) := by decide +kernel
theorem dX10_row_5 : decode cX10_row 5 = .ok (.iload_n 1, 1) := by decide +kernel
theorem dX10_row_6 : decode cX10_row 6 = .ok (.ifCond .lt 20, 3) := by decide +kernel
theorem dX10_row_9 : decode cX10_row 9 = .ok (.iload_n 1, 1) := by decide +kernel
theorem dX10_row_10 : decode cX10_row 10 = .ok (.aload_n 0, 1) := by decide +kernel
theorem dX10_row_11 : decode cX10_row 11 = .ok (.getfield 120, 3) := by decide +kernel
theorem dX10_row_14 : decode cX10_row 14 = .ok (.if_icmp .ge 12, 3) := by decide +kernel
theorem dX10_row_17 : decode cX10_row 17 = .ok (.aload_n 0, 1) := by decide +kernel
theorem dX10_row_18 : decode cX10_row 18 = .ok (.getfield 28, 3) := by decide +kernel
theorem dX10_row_21 : decode cX10_row 21 = .ok (.iload_n 1, 1) := by decide +kernel
theorem dX10_row_22 : decode cX10_row 22 = .ok (.iaload, 1) := by decide +kernel
theorem dX10_row_23 : decode cX10_row 23 = .ok (.goto 4, 3) := by decide +kernel
theorem dX10_row_26 : decode cX10_row 26 = .ok (.iconst 0, 1) := by decide +kernel
theorem dX10_row_27 : decode cX10_row 27 = .ok (.ireturn, 1) := by decide +kernel
theorem dX10_codeOf_0 : decode cX10_codeOf 0 = .ok (.lload_n 0, 1) := by decide +kernel
theorem dX10_codeOf_1 : decode cX10_codeOf 1 = .ok (.lconst 0, 1) := by decide +kernel
theorem dX10_codeOf_2 : decode cX10_codeOf 2 = .ok (.lcmp, 1) := by decide +kernel
theorem dX10_codeOf_3 : decode cX10_codeOf 3 = .ok (.ifCond .lt 34, 3) := by decide +kernel
theorem dX10_codeOf_6 : decode cX10_codeOf 6 = .ok (.iload_n 2, 1) := by decide +kernel
theorem dX10_codeOf_7 : decode cX10_codeOf 7 = .ok (.ifCond .ne 7, 3) := by decide +kernel
theorem dX10_codeOf_10 : decode cX10_codeOf 10 = .ok (.lload_n 0, 1) := by decide +kernel
theorem dX10_codeOf_11 : decode cX10_codeOf 11 = .ok (.goto 58, 3) := by decide +kernel
theorem dX10_codeOf_14 : decode cX10_codeOf 14 = .ok (.iload_n 2, 1) := by decide +kernel
theorem dX10_codeOf_15 : decode cX10_codeOf 15 = .ok (.iconst 1, 1) := by decide +kernel
theorem dX10_codeOf_16 : decode cX10_codeOf 16 = .ok (.if_icmp .ne 11, 3) := by decide +kernel
theorem dX10_codeOf_19 : decode cX10_codeOf 19 = .ok (.ldc2_w 123, 3) := by decide +kernel
theorem dX10_codeOf_22 : decode cX10_codeOf 22 = .ok (.lload_n 0, 1) := by decide +kernel
theorem dX10_codeOf_23 : decode cX10_codeOf 23 = .ok (.lmul, 1) := by decide +kernel
theorem dX10_codeOf_24 : decode cX10_codeOf 24 = .ok (.goto 45, 3) := by decide +kernel
theorem dX10_codeOf_27 : decode cX10_codeOf 27 = .ok (.lload_n 0, 1) := by decide +kernel
theorem dX10_codeOf_28 : decode cX10_codeOf 28 = .ok (.lload_n 0, 1) := by decide +kernel
theorem dX10_codeOf_29 : decode cX10_codeOf 29 = .ok (.ldc2_w 125, 3) := by decide +kernel
theorem dX10_codeOf_32 : decode cX10_codeOf 32 = .ok (.ldiv, 1) := by decide +kernel
theorem dX10_codeOf_33 : decode cX10_codeOf 33 = .ok (.ladd, 1) := by decide +kernel
theorem dX10_codeOf_34 : decode cX10_codeOf 34 = .ok (.goto 35, 3) := by decide +kernel
theorem dX10_codeOf_37 : decode cX10_codeOf 37 = .ok (.iload_n 2, 1) := by decide +kernel
theorem dX10_codeOf_38 : decode cX10_codeOf 38 = .ok (.ifCond .ne 9, 3) := by decide +kernel
theorem dX10_codeOf_41 : decode cX10_codeOf 41 = .ok (.ldc2_w 127, 3) := by decide +kernel
theorem dX10_codeOf_44 : decode cX10_codeOf 44 = .ok (.goto 25, 3) := by decide +kernel
theorem dX10_codeOf_47 : decode cX10_codeOf 47 = .ok (.iload_n 2, 1) := by decide +kernel
theorem dX10_codeOf_48 : decode cX10_codeOf 48 = .ok (.iconst 1, 1) := by decide +kernel
theorem dX10_codeOf_49 : decode cX10_codeOf 49 = .ok (.if_icmp .ne 13, 3) := by decide +kernel
theorem dX10_codeOf_52 : decode cX10_codeOf 52 = .ok (.ldc2_w 129, 3) := by decide +kernel
theorem dX10_codeOf_55 : decode cX10_codeOf 55 = .ok (.lload_n 0, 1) := by decide +kernel
theorem dX10_codeOf_56 : decode cX10_codeOf 56 = .ok (.lmul, 1) := by decide +kernel
theorem dX10_codeOf_57 : decode cX10_codeOf 57 = .ok (.lconst 1, 1) := by decide +kernel
theorem dX10_codeOf_58 : decode cX10_codeOf 58 = .ok (.lsub, 1) := by decide +kernel
theorem dX10_codeOf_59 : decode cX10_codeOf 59 = .ok (.goto 10, 3) := by decide +kernel
theorem dX10_codeOf_62 : decode cX10_codeOf 62 = .ok (.ldc2_w 131, 3) := by decide +kernel
theorem dX10_codeOf_65 : decode cX10_codeOf 65 = .ok (.lload_n 0, 1) := by decide +kernel
theorem dX10_codeOf_66 : decode cX10_codeOf 66 = .ok (.lmul, 1) := by decide +kernel
theorem dX10_codeOf_67 : decode cX10_codeOf 67 = .ok (.lconst 1, 1) := by decide +kernel
theorem dX10_codeOf_68 : decode cX10_codeOf 68 = .ok (.lsub, 1) := by decide +kernel
theorem dX10_codeOf_69 : decode cX10_codeOf 69 = .ok (.lstore_n 3, 1) := by decide +kernel
theorem dX10_codeOf_70 : decode cX10_codeOf 70 = .ok (.lload_n 3, 1) := by decide +kernel
theorem dX10_codeOf_71 : decode cX10_codeOf 71 = .ok (.ldc2_w 133, 3) := by decide +kernel
theorem dX10_codeOf_74 : decode cX10_codeOf 74 = .ok (.lcmp, 1) := by decide +kernel
theorem dX10_codeOf_75 : decode cX10_codeOf 75 = .ok (.ifCond .ge 7, 3) := by decide +kernel
theorem dX10_codeOf_78 : decode cX10_codeOf 78 = .ok (.lload_n 3, 1) := by decide +kernel
theorem dX10_codeOf_79 : decode cX10_codeOf 79 = .ok (.goto 6, 3) := by decide +kernel
theorem dX10_codeOf_82 : decode cX10_codeOf 82 = .ok (.ldc2_w 127, 3) := by decide +kernel
theorem dX10_codeOf_85 : decode cX10_codeOf 85 = .ok (.lreturn, 1) := by decide +kernel
theorem dX10_bytes_0 : decode cX10_bytes 0 = .ok (.iload_n 2, 1) := by decide +kernel
theorem dX10_bytes_1 : decode cX10_bytes 1 = .ok (.i2l, 1) := by decide +kernel
theorem dX10_bytes_2 : decode cX10_bytes 2 = .ok (.aload_n 0, 1) := by decide +kernel
theorem dX10_bytes_3 : decode cX10_bytes 3 = .ok (.getfield 19, 3) := by decide +kernel
theorem dX10_bytes_6 : decode cX10_bytes 6 = .ok (.iload_n 1, 1) := by decide +kernel
theorem dX10_bytes_7 : decode cX10_bytes 7 = .ok (.iaload, 1) := by decide +kernel
theorem dX10_bytes_8 : decode cX10_bytes 8 = .ok (.invokestatic 135, 3) := by decide +kernel
theorem dX10_bytes_11 : decode cX10_bytes 11 = .ok (.lstore 4, 2) := by decide +kernel
theorem dX10_bytes_13 : decode cX10_bytes 13 = .ok (.lload 4, 2) := by decide +kernel
theorem dX10_bytes_15 : decode cX10_bytes 15 = .ok (.lconst 0, 1) := by decide +kernel
theorem dX10_bytes_16 : decode cX10_bytes 16 = .ok (.lcmp, 1) := by decide +kernel
theorem dX10_bytes_17 : decode cX10_bytes 17 = .ok (.ifCond .ge 5, 3) := by decide +kernel
theorem dX10_bytes_20 : decode cX10_bytes 20 = .ok (.iconst 0, 1) := by decide +kernel
theorem dX10_bytes_21 : decode cX10_bytes 21 = .ok (.ireturn, 1) := by decide +kernel
theorem dX10_bytes_22 : decode cX10_bytes 22 = .ok (.aload_n 0, 1) := by decide +kernel
theorem dX10_bytes_23 : decode cX10_bytes 23 = .ok (.getfield 16, 3) := by decide +kernel
theorem dX10_bytes_26 : decode cX10_bytes 26 = .ok (.iload_n 1, 1) := by decide +kernel
theorem dX10_bytes_27 : decode cX10_bytes 27 = .ok (.iaload, 1) := by decide +kernel
theorem dX10_bytes_28 : decode cX10_bytes 28 = .ok (.istore 6, 2) := by decide +kernel
theorem dX10_bytes_30 : decode cX10_bytes 30 = .ok (.sipush 256, 3) := by decide +kernel
theorem dX10_bytes_33 : decode cX10_bytes 33 = .ok (.iload 6, 2) := by decide +kernel
theorem dX10_bytes_35 : decode cX10_bytes 35 = .ok (.isub, 1) := by decide +kernel
theorem dX10_bytes_36 : decode cX10_bytes 36 = .ok (.istore 7, 2) := by decide +kernel
theorem dX10_bytes_38 : decode cX10_bytes 38 = .ok (.iconst 1, 1) := by decide +kernel
theorem dX10_bytes_39 : decode cX10_bytes 39 = .ok (.istore 8, 2) := by decide +kernel
theorem dX10_bytes_41 : decode cX10_bytes 41 = .ok (.iload 8, 2) := by decide +kernel
theorem dX10_bytes_43 : decode cX10_bytes 43 = .ok (.aload_n 0, 1) := by decide +kernel
theorem dX10_bytes_44 : decode cX10_bytes 44 = .ok (.getfield 13, 3) := by decide +kernel
theorem dX10_bytes_47 : decode cX10_bytes 47 = .ok (.iload_n 1, 1) := by decide +kernel
theorem dX10_bytes_48 : decode cX10_bytes 48 = .ok (.iaload, 1) := by decide +kernel
theorem dX10_bytes_49 : decode cX10_bytes 49 = .ok (.if_icmp .gt 132, 3) := by decide +kernel
theorem dX10_bytes_52 : decode cX10_bytes 52 = .ok (.lload 4, 2) := by decide +kernel
theorem dX10_bytes_54 : decode cX10_bytes 54 = .ok (.iload 7, 2) := by decide +kernel
theorem dX10_bytes_56 : decode cX10_bytes 56 = .ok (.i2l, 1) := by decide +kernel
theorem dX10_bytes_57 : decode cX10_bytes 57 = .ok (.lcmp, 1) := by decide +kernel
theorem dX10_bytes_58 : decode cX10_bytes 58 = .ok (.ifCond .lt 14, 3) := by decide +kernel
theorem dX10_bytes_61 : decode cX10_bytes 61 = .ok (.iload 8, 2) := by decide +kernel
theorem dX10_bytes_63 : decode cX10_bytes 63 = .ok (.aload_n 0, 1) := by decide +kernel
theorem dX10_bytes_64 : decode cX10_bytes 64 = .ok (.getfield 13, 3) := by decide +kernel
theorem dX10_bytes_67 : decode cX10_bytes 67 = .ok (.iload_n 1, 1) := by decide +kernel
theorem dX10_bytes_68 : decode cX10_bytes 68 = .ok (.iaload, 1) := by decide +kernel
theorem dX10_bytes_69 : decode cX10_bytes 69 = .ok (.if_icmp .ne 7, 3) := by decide +kernel
theorem dX10_bytes_72 : decode cX10_bytes 72 = .ok (.iconst 1, 1) := by decide +kernel
theorem dX10_bytes_73 : decode cX10_bytes 73 = .ok (.goto 4, 3) := by decide +kernel
theorem dX10_bytes_76 : decode cX10_bytes 76 = .ok (.iconst 0, 1) := by decide +kernel
theorem dX10_bytes_77 : decode cX10_bytes 77 = .ok (.istore 9, 2) := by decide +kernel
theorem dX10_bytes_79 : decode cX10_bytes 79 = .ok (.iload 9, 2) := by decide +kernel
theorem dX10_bytes_81 : decode cX10_bytes 81 = .ok (.ifCond .eq 14, 3) := by decide +kernel
theorem dX10_bytes_84 : decode cX10_bytes 84 = .ok (.lload 4, 2) := by decide +kernel
theorem dX10_bytes_86 : decode cX10_bytes 86 = .ok (.ldc2_w 139, 3) := by decide +kernel
theorem dX10_bytes_89 : decode cX10_bytes 89 = .ok (.lcmp, 1) := by decide +kernel
theorem dX10_bytes_90 : decode cX10_bytes 90 = .ok (.ifCond .le 5, 3) := by decide +kernel
theorem dX10_bytes_93 : decode cX10_bytes 93 = .ok (.iconst 0, 1) := by decide +kernel
theorem dX10_bytes_94 : decode cX10_bytes 94 = .ok (.ireturn, 1) := by decide +kernel
theorem dX10_bytes_95 : decode cX10_bytes 95 = .ok (.iload 9, 2) := by decide +kernel
theorem dX10_bytes_97 : decode cX10_bytes 97 = .ok (.ifCond .eq 9, 3) := by decide +kernel
theorem dX10_bytes_100 : decode cX10_bytes 100 = .ok (.lload 4, 2) := by decide +kernel
theorem dX10_bytes_102 : decode cX10_bytes 102 = .ok (.l2i, 1) := by decide +kernel
theorem dX10_bytes_103 : decode cX10_bytes 103 = .ok (.goto 17, 3) := by decide +kernel
theorem dX10_bytes_106 : decode cX10_bytes 106 = .ok (.iload 7, 2) := by decide +kernel
theorem dX10_bytes_108 : decode cX10_bytes 108 = .ok (.lload 4, 2) := by decide +kernel
theorem dX10_bytes_110 : decode cX10_bytes 110 = .ok (.iload 7, 2) := by decide +kernel
theorem dX10_bytes_112 : decode cX10_bytes 112 = .ok (.i2l, 1) := by decide +kernel
theorem dX10_bytes_113 : decode cX10_bytes 113 = .ok (.lsub, 1) := by decide +kernel
theorem dX10_bytes_114 : decode cX10_bytes 114 = .ok (.iload 6, 2) := by decide +kernel
theorem dX10_bytes_116 : decode cX10_bytes 116 = .ok (.i2l, 1) := by decide +kernel
theorem dX10_bytes_117 : decode cX10_bytes 117 = .ok (.lrem, 1) := by decide +kernel
theorem dX10_bytes_118 : decode cX10_bytes 118 = .ok (.l2i, 1) := by decide +kernel
theorem dX10_bytes_119 : decode cX10_bytes 119 = .ok (.iadd, 1) := by decide +kernel
theorem dX10_bytes_120 : decode cX10_bytes 120 = .ok (.istore 10, 2) := by decide +kernel
theorem dX10_bytes_122 : decode cX10_bytes 122 = .ok (.iload_n 3, 1) := by decide +kernel
theorem dX10_bytes_123 : decode cX10_bytes 123 = .ok (.ifCond .eq 32, 3) := by decide +kernel
theorem dX10_bytes_126 : decode cX10_bytes 126 = .ok (.aload_n 0, 1) := by decide +kernel
theorem dX10_bytes_127 : decode cX10_bytes 127 = .ok (.getfield 141, 3) := by decide +kernel
theorem dX10_bytes_130 : decode cX10_bytes 130 = .ok (.iload 8, 2) := by decide +kernel
theorem dX10_bytes_132 : decode cX10_bytes 132 = .ok (.iadd, 1) := by decide +kernel
theorem dX10_bytes_133 : decode cX10_bytes 133 = .ok (.sipush 8000, 3) := by decide +kernel
theorem dX10_bytes_136 : decode cX10_bytes 136 = .ok (.if_icmp .gt 19, 3) := by decide +kernel
theorem dX10_bytes_139 : decode cX10_bytes 139 = .ok (.aload_n 0, 1) := by decide +kernel
theorem dX10_bytes_140 : decode cX10_bytes 140 = .ok (.getfield 63, 3) := by decide +kernel
theorem dX10_bytes_143 : decode cX10_bytes 143 = .ok (.aload_n 0, 1) := by decide +kernel
theorem dX10_bytes_144 : decode cX10_bytes 144 = .ok (.getfield 141, 3) := by decide +kernel
theorem dX10_bytes_147 : decode cX10_bytes 147 = .ok (.iload 8, 2) := by decide +kernel
theorem dX10_bytes_149 : decode cX10_bytes 149 = .ok (.iadd, 1) := by decide +kernel
theorem dX10_bytes_150 : decode cX10_bytes 150 = .ok (.iconst 1, 1) := by decide +kernel
theorem dX10_bytes_151 : decode cX10_bytes 151 = .ok (.isub, 1) := by decide +kernel
theorem dX10_bytes_152 : decode cX10_bytes 152 = .ok (.iload 10, 2) := by decide +kernel
theorem dX10_bytes_154 : decode cX10_bytes 154 = .ok (.iastore, 1) := by decide +kernel
theorem dX10_bytes_155 : decode cX10_bytes 155 = .ok (.iload 9, 2) := by decide +kernel
theorem dX10_bytes_157 : decode cX10_bytes 157 = .ok (.ifCond .eq 6, 3) := by decide +kernel
theorem dX10_bytes_160 : decode cX10_bytes 160 = .ok (.iload 8, 2) := by decide +kernel
theorem dX10_bytes_162 : decode cX10_bytes 162 = .ok (.ireturn, 1) := by decide +kernel
theorem dX10_bytes_163 : decode cX10_bytes 163 = .ok (.lload 4, 2) := by decide +kernel
theorem dX10_bytes_165 : decode cX10_bytes 165 = .ok (.iload 10, 2) := by decide +kernel
theorem dX10_bytes_167 : decode cX10_bytes 167 = .ok (.i2l, 1) := by decide +kernel
theorem dX10_bytes_168 : decode cX10_bytes 168 = .ok (.lsub, 1) := by decide +kernel
theorem dX10_bytes_169 : decode cX10_bytes 169 = .ok (.iload 6, 2) := by decide +kernel
theorem dX10_bytes_171 : decode cX10_bytes 171 = .ok (.i2l, 1) := by decide +kernel
theorem dX10_bytes_172 : decode cX10_bytes 172 = .ok (.ldiv, 1) := by decide +kernel
theorem dX10_bytes_173 : decode cX10_bytes 173 = .ok (.lstore 4, 2) := by decide +kernel
theorem dX10_bytes_175 : decode cX10_bytes 175 = .ok (.iinc 8 1, 3) := by decide +kernel
theorem dX10_bytes_178 : decode cX10_bytes 178 = .ok (.goto (-137), 3) := by decide +kernel
theorem dX10_bytes_181 : decode cX10_bytes 181 = .ok (.iconst 0, 1) := by decide +kernel
theorem dX10_bytes_182 : decode cX10_bytes 182 = .ok (.ireturn, 1) := by decide +kernel
theorem dX10_told_0 : decode cX10_told 0 = .ok (.aload_n 0, 1) := by decide +kernel
theorem dX10_told_1 : decode cX10_told 1 = .ok (.getfield 22, 3) := by decide +kernel
theorem dX10_told_4 : decode cX10_told 4 = .ok (.iload_n 1, 1) := by decide +kernel
theorem dX10_told_5 : decode cX10_told 5 = .ok (.iaload, 1) := by decide +kernel
theorem dX10_told_6 : decode cX10_told 6 = .ok (.iconst 1, 1) := by decide +kernel
theorem dX10_told_7 : decode cX10_told 7 = .ok (.if_icmp .ne 9, 3) := by decide +kernel
theorem dX10_told_10 : decode cX10_told 10 = .ok (.iload_n 2, 1) := by decide +kernel
theorem dX10_told_11 : decode cX10_told 11 = .ok (.iload_n 3, 1) := by decide +kernel
theorem dX10_told_12 : decode cX10_told 12 = .ok (.isub, 1) := by decide +kernel
theorem dX10_told_13 : decode cX10_told 13 = .ok (.goto 4, 3) := by decide +kernel
theorem dX10_told_16 : decode cX10_told 16 = .ok (.iload_n 2, 1) := by decide +kernel
theorem dX10_told_17 : decode cX10_told 17 = .ok (.ireturn, 1) := by decide +kernel
theorem dX10_task_0 : decode cX10_task 0 = .ok (.aload_n 0, 1) := by decide +kernel
theorem dX10_task_1 : decode cX10_task 1 = .ok (.getfield 51, 3) := by decide +kernel
theorem dX10_task_4 : decode cX10_task 4 = .ok (.aload_n 0, 1) := by decide +kernel
theorem dX10_task_5 : decode cX10_task 5 = .ok (.getfield 144, 3) := by decide +kernel
theorem dX10_task_8 : decode cX10_task 8 = .ok (.iload_n 1, 1) := by decide +kernel
theorem dX10_task_9 : decode cX10_task 9 = .ok (.iastore, 1) := by decide +kernel
theorem dX10_task_10 : decode cX10_task 10 = .ok (.aload_n 0, 1) := by decide +kernel
theorem dX10_task_11 : decode cX10_task 11 = .ok (.getfield 54, 3) := by decide +kernel
theorem dX10_task_14 : decode cX10_task 14 = .ok (.aload_n 0, 1) := by decide +kernel
theorem dX10_task_15 : decode cX10_task 15 = .ok (.getfield 144, 3) := by decide +kernel
theorem dX10_task_18 : decode cX10_task 18 = .ok (.iload_n 2, 1) := by decide +kernel
theorem dX10_task_19 : decode cX10_task 19 = .ok (.iastore, 1) := by decide +kernel
theorem dX10_task_20 : decode cX10_task 20 = .ok (.aload_n 0, 1) := by decide +kernel
theorem dX10_task_21 : decode cX10_task 21 = .ok (.getfield 57, 3) := by decide +kernel
theorem dX10_task_24 : decode cX10_task 24 = .ok (.aload_n 0, 1) := by decide +kernel
theorem dX10_task_25 : decode cX10_task 25 = .ok (.getfield 144, 3) := by decide +kernel
theorem dX10_task_28 : decode cX10_task 28 = .ok (.iload_n 3, 1) := by decide +kernel
theorem dX10_task_29 : decode cX10_task 29 = .ok (.iastore, 1) := by decide +kernel
theorem dX10_task_30 : decode cX10_task 30 = .ok (.aload_n 0, 1) := by decide +kernel
theorem dX10_task_31 : decode cX10_task 31 = .ok (.dup, 1) := by decide +kernel
theorem dX10_task_32 : decode cX10_task 32 = .ok (.getfield 144, 3) := by decide +kernel
theorem dX10_task_35 : decode cX10_task 35 = .ok (.iconst 1, 1) := by decide +kernel
theorem dX10_task_36 : decode cX10_task 36 = .ok (.iadd, 1) := by decide +kernel
theorem dX10_task_37 : decode cX10_task 37 = .ok (.putfield 144, 3) := by decide +kernel
theorem dX10_task_40 : decode cX10_task 40 = .ok (.return_, 1) := by decide +kernel
theorem dX10_writes_0 : decode cX10_writes 0 = .ok (.iconst 0, 1) := by decide +kernel
theorem dX10_writes_1 : decode cX10_writes 1 = .ok (.istore_n 2, 1) := by decide +kernel
theorem dX10_writes_2 : decode cX10_writes 2 = .ok (.iload_n 2, 1) := by decide +kernel
theorem dX10_writes_3 : decode cX10_writes 3 = .ok (.aload_n 0, 1) := by decide +kernel
theorem dX10_writes_4 : decode cX10_writes 4 = .ok (.getfield 120, 3) := by decide +kernel
theorem dX10_writes_7 : decode cX10_writes 7 = .ok (.if_icmp .ge 21, 3) := by decide +kernel
theorem dX10_writes_10 : decode cX10_writes 10 = .ok (.aload_n 0, 1) := by decide +kernel
theorem dX10_writes_11 : decode cX10_writes 11 = .ok (.getfield 48, 3) := by decide +kernel
theorem dX10_writes_14 : decode cX10_writes 14 = .ok (.iload_n 2, 1) := by decide +kernel
theorem dX10_writes_15 : decode cX10_writes 15 = .ok (.aload_n 0, 1) := by decide +kernel
theorem dX10_writes_16 : decode cX10_writes 16 = .ok (.getfield 28, 3) := by decide +kernel
theorem dX10_writes_19 : decode cX10_writes 19 = .ok (.iload_n 2, 1) := by decide +kernel
theorem dX10_writes_20 : decode cX10_writes 20 = .ok (.iaload, 1) := by decide +kernel
theorem dX10_writes_21 : decode cX10_writes 21 = .ok (.iastore, 1) := by decide +kernel
theorem dX10_writes_22 : decode cX10_writes 22 = .ok (.iinc 2 1, 3) := by decide +kernel
theorem dX10_writes_25 : decode cX10_writes 25 = .ok (.goto (-23), 3) := by decide +kernel
theorem dX10_writes_28 : decode cX10_writes 28 = .ok (.aload_n 0, 1) := by decide +kernel
theorem dX10_writes_29 : decode cX10_writes 29 = .ok (.aload_n 0, 1) := by decide +kernel
theorem dX10_writes_30 : decode cX10_writes 30 = .ok (.getfield 120, 3) := by decide +kernel
theorem dX10_writes_33 : decode cX10_writes 33 = .ok (.putfield 147, 3) := by decide +kernel
theorem dX10_writes_36 : decode cX10_writes 36 = .ok (.aload_n 0, 1) := by decide +kernel
theorem dX10_writes_37 : decode cX10_writes 37 = .ok (.iconst 0, 1) := by decide +kernel
theorem dX10_writes_38 : decode cX10_writes 38 = .ok (.putfield 141, 3) := by decide +kernel
theorem dX10_writes_41 : decode cX10_writes 41 = .ok (.aload_n 0, 1) := by decide +kernel
theorem dX10_writes_42 : decode cX10_writes 42 = .ok (.iconst 0, 1) := by decide +kernel
theorem dX10_writes_43 : decode cX10_writes 43 = .ok (.putfield 144, 3) := by decide +kernel
theorem dX10_writes_46 : decode cX10_writes 46 = .ok (.aload_n 0, 1) := by decide +kernel
theorem dX10_writes_47 : decode cX10_writes 47 = .ok (.iload_n 1, 1) := by decide +kernel
theorem dX10_writes_48 : decode cX10_writes 48 = .ok (.iconst 0, 1) := by decide +kernel
theorem dX10_writes_49 : decode cX10_writes 49 = .ok (.aload_n 0, 1) := by decide +kernel
theorem dX10_writes_50 : decode cX10_writes 50 = .ok (.getfield 120, 3) := by decide +kernel
theorem dX10_writes_53 : decode cX10_writes 53 = .ok (.invokevirtual 150, 3) := by decide +kernel
theorem dX10_writes_56 : decode cX10_writes 56 = .ok (.aload_n 0, 1) := by decide +kernel
theorem dX10_writes_57 : decode cX10_writes 57 = .ok (.getfield 144, 3) := by decide +kernel
theorem dX10_writes_60 : decode cX10_writes 60 = .ok (.ifCond .le 209, 3) := by decide +kernel
theorem dX10_writes_63 : decode cX10_writes 63 = .ok (.aload_n 0, 1) := by decide +kernel
theorem dX10_writes_64 : decode cX10_writes 64 = .ok (.dup, 1) := by decide +kernel
theorem dX10_writes_65 : decode cX10_writes 65 = .ok (.getfield 144, 3) := by decide +kernel
theorem dX10_writes_68 : decode cX10_writes 68 = .ok (.iconst 1, 1) := by decide +kernel
theorem dX10_writes_69 : decode cX10_writes 69 = .ok (.isub, 1) := by decide +kernel
theorem dX10_writes_70 : decode cX10_writes 70 = .ok (.putfield 144, 3) := by decide +kernel
theorem dX10_writes_73 : decode cX10_writes 73 = .ok (.aload_n 0, 1) := by decide +kernel
theorem dX10_writes_74 : decode cX10_writes 74 = .ok (.getfield 51, 3) := by decide +kernel
theorem dX10_writes_77 : decode cX10_writes 77 = .ok (.aload_n 0, 1) := by decide +kernel
theorem dX10_writes_78 : decode cX10_writes 78 = .ok (.getfield 144, 3) := by decide +kernel
theorem dX10_writes_81 : decode cX10_writes 81 = .ok (.iaload, 1) := by decide +kernel
theorem dX10_writes_82 : decode cX10_writes 82 = .ok (.istore_n 2, 1) := by decide +kernel
theorem dX10_writes_83 : decode cX10_writes 83 = .ok (.aload_n 0, 1) := by decide +kernel
theorem dX10_writes_84 : decode cX10_writes 84 = .ok (.getfield 54, 3) := by decide +kernel
theorem dX10_writes_87 : decode cX10_writes 87 = .ok (.aload_n 0, 1) := by decide +kernel
theorem dX10_writes_88 : decode cX10_writes 88 = .ok (.getfield 144, 3) := by decide +kernel
theorem dX10_writes_91 : decode cX10_writes 91 = .ok (.iaload, 1) := by decide +kernel
theorem dX10_writes_92 : decode cX10_writes 92 = .ok (.istore_n 3, 1) := by decide +kernel
theorem dX10_writes_93 : decode cX10_writes 93 = .ok (.aload_n 0, 1) := by decide +kernel
theorem dX10_writes_94 : decode cX10_writes 94 = .ok (.getfield 57, 3) := by decide +kernel
theorem dX10_writes_97 : decode cX10_writes 97 = .ok (.aload_n 0, 1) := by decide +kernel
theorem dX10_writes_98 : decode cX10_writes 98 = .ok (.getfield 144, 3) := by decide +kernel
theorem dX10_writes_101 : decode cX10_writes 101 = .ok (.iaload, 1) := by decide +kernel
theorem dX10_writes_102 : decode cX10_writes 102 = .ok (.istore 4, 2) := by decide +kernel
theorem dX10_writes_104 : decode cX10_writes 104 = .ok (.aload_n 0, 1) := by decide +kernel
theorem dX10_writes_105 : decode cX10_writes 105 = .ok (.getfield 7, 3) := by decide +kernel
theorem dX10_writes_108 : decode cX10_writes 108 = .ok (.iload_n 2, 1) := by decide +kernel
theorem dX10_writes_109 : decode cX10_writes 109 = .ok (.iaload, 1) := by decide +kernel
theorem dX10_writes_110 : decode cX10_writes 110 = .ok (.iconst 1, 1) := by decide +kernel
theorem dX10_writes_111 : decode cX10_writes 111 = .ok (.if_icmp .ne 62, 3) := by decide +kernel
theorem dX10_writes_114 : decode cX10_writes 114 = .ok (.aload_n 0, 1) := by decide +kernel
theorem dX10_writes_115 : decode cX10_writes 115 = .ok (.getfield 13, 3) := by decide +kernel
theorem dX10_writes_118 : decode cX10_writes 118 = .ok (.iload_n 2, 1) := by decide +kernel
theorem dX10_writes_119 : decode cX10_writes 119 = .ok (.iaload, 1) := by decide +kernel
theorem dX10_writes_120 : decode cX10_writes 120 = .ok (.iload 4, 2) := by decide +kernel
theorem dX10_writes_122 : decode cX10_writes 122 = .ok (.if_icmp .ge 12, 3) := by decide +kernel
theorem dX10_writes_125 : decode cX10_writes 125 = .ok (.aload_n 0, 1) := by decide +kernel
theorem dX10_writes_126 : decode cX10_writes 126 = .ok (.getfield 13, 3) := by decide +kernel
theorem dX10_writes_129 : decode cX10_writes 129 = .ok (.iload_n 2, 1) := by decide +kernel
theorem dX10_writes_130 : decode cX10_writes 130 = .ok (.iaload, 1) := by decide +kernel
theorem dX10_writes_131 : decode cX10_writes 131 = .ok (.goto 5, 3) := by decide +kernel
theorem dX10_writes_134 : decode cX10_writes 134 = .ok (.iload 4, 2) := by decide +kernel
theorem dX10_writes_136 : decode cX10_writes 136 = .ok (.istore 5, 2) := by decide +kernel
theorem dX10_writes_138 : decode cX10_writes 138 = .ok (.aload_n 0, 1) := by decide +kernel
theorem dX10_writes_139 : decode cX10_writes 139 = .ok (.aload_n 0, 1) := by decide +kernel
theorem dX10_writes_140 : decode cX10_writes 140 = .ok (.getfield 19, 3) := by decide +kernel
theorem dX10_writes_143 : decode cX10_writes 143 = .ok (.iload_n 2, 1) := by decide +kernel
theorem dX10_writes_144 : decode cX10_writes 144 = .ok (.iaload, 1) := by decide +kernel
theorem dX10_writes_145 : decode cX10_writes 145 = .ok (.iload_n 3, 1) := by decide +kernel
theorem dX10_writes_146 : decode cX10_writes 146 = .ok (.iload 5, 2) := by decide +kernel
theorem dX10_writes_148 : decode cX10_writes 148 = .ok (.iadd, 1) := by decide +kernel
theorem dX10_writes_149 : decode cX10_writes 149 = .ok (.iload 4, 2) := by decide +kernel
theorem dX10_writes_151 : decode cX10_writes 151 = .ok (.iload 5, 2) := by decide +kernel
theorem dX10_writes_153 : decode cX10_writes 153 = .ok (.isub, 1) := by decide +kernel
theorem dX10_writes_154 : decode cX10_writes 154 = .ok (.invokevirtual 150, 3) := by decide +kernel
theorem dX10_writes_157 : decode cX10_writes 157 = .ok (.aload_n 0, 1) := by decide +kernel
theorem dX10_writes_158 : decode cX10_writes 158 = .ok (.aload_n 0, 1) := by decide +kernel
theorem dX10_writes_159 : decode cX10_writes 159 = .ok (.getfield 16, 3) := by decide +kernel
theorem dX10_writes_162 : decode cX10_writes 162 = .ok (.iload_n 2, 1) := by decide +kernel
theorem dX10_writes_163 : decode cX10_writes 163 = .ok (.iaload, 1) := by decide +kernel
theorem dX10_writes_164 : decode cX10_writes 164 = .ok (.iload_n 3, 1) := by decide +kernel
theorem dX10_writes_165 : decode cX10_writes 165 = .ok (.iload 5, 2) := by decide +kernel
theorem dX10_writes_167 : decode cX10_writes 167 = .ok (.invokevirtual 150, 3) := by decide +kernel
theorem dX10_writes_170 : decode cX10_writes 170 = .ok (.goto 96, 3) := by decide +kernel
theorem dX10_writes_173 : decode cX10_writes 173 = .ok (.aload_n 0, 1) := by decide +kernel
theorem dX10_writes_174 : decode cX10_writes 174 = .ok (.getfield 7, 3) := by decide +kernel
theorem dX10_writes_177 : decode cX10_writes 177 = .ok (.iload_n 2, 1) := by decide +kernel
theorem dX10_writes_178 : decode cX10_writes 178 = .ok (.iaload, 1) := by decide +kernel
theorem dX10_writes_179 : decode cX10_writes 179 = .ok (.iconst 2, 1) := by decide +kernel
theorem dX10_writes_180 : decode cX10_writes 180 = .ok (.if_icmp .ne 14, 3) := by decide +kernel
theorem dX10_writes_183 : decode cX10_writes 183 = .ok (.aload_n 0, 1) := by decide +kernel
theorem dX10_writes_184 : decode cX10_writes 184 = .ok (.iload_n 2, 1) := by decide +kernel
theorem dX10_writes_185 : decode cX10_writes 185 = .ok (.iload_n 3, 1) := by decide +kernel
theorem dX10_writes_186 : decode cX10_writes 186 = .ok (.iload 4, 2) := by decide +kernel
theorem dX10_writes_188 : decode cX10_writes 188 = .ok (.invokevirtual 154, 3) := by decide +kernel
theorem dX10_writes_191 : decode cX10_writes 191 = .ok (.goto 75, 3) := by decide +kernel
theorem dX10_writes_194 : decode cX10_writes 194 = .ok (.iconst 0, 1) := by decide +kernel
theorem dX10_writes_195 : decode cX10_writes 195 = .ok (.istore 5, 2) := by decide +kernel
theorem dX10_writes_197 : decode cX10_writes 197 = .ok (.iconst 0, 1) := by decide +kernel
theorem dX10_writes_198 : decode cX10_writes 198 = .ok (.istore 6, 2) := by decide +kernel
theorem dX10_writes_200 : decode cX10_writes 200 = .ok (.iload 6, 2) := by decide +kernel
theorem dX10_writes_202 : decode cX10_writes 202 = .ok (.iload 4, 2) := by decide +kernel
theorem dX10_writes_204 : decode cX10_writes 204 = .ok (.if_icmp .ge 62, 3) := by decide +kernel
theorem dX10_writes_207 : decode cX10_writes 207 = .ok (.aload_n 0, 1) := by decide +kernel
theorem dX10_writes_208 : decode cX10_writes 208 = .ok (.iload_n 2, 1) := by decide +kernel
theorem dX10_writes_209 : decode cX10_writes 209 = .ok (.aload_n 0, 1) := by decide +kernel
theorem dX10_writes_210 : decode cX10_writes 210 = .ok (.iload_n 2, 1) := by decide +kernel
theorem dX10_writes_211 : decode cX10_writes 211 = .ok (.aload_n 0, 1) := by decide +kernel
theorem dX10_writes_212 : decode cX10_writes 212 = .ok (.getfield 48, 3) := by decide +kernel
theorem dX10_writes_215 : decode cX10_writes 215 = .ok (.iload_n 3, 1) := by decide +kernel
theorem dX10_writes_216 : decode cX10_writes 216 = .ok (.iload 6, 2) := by decide +kernel
theorem dX10_writes_218 : decode cX10_writes 218 = .ok (.iadd, 1) := by decide +kernel
theorem dX10_writes_219 : decode cX10_writes 219 = .ok (.iaload, 1) := by decide +kernel
theorem dX10_writes_220 : decode cX10_writes 220 = .ok (.iload 5, 2) := by decide +kernel
theorem dX10_writes_222 : decode cX10_writes 222 = .ok (.invokevirtual 157, 3) := by decide +kernel
theorem dX10_writes_225 : decode cX10_writes 225 = .ok (.iconst 1, 1) := by decide +kernel
theorem dX10_writes_226 : decode cX10_writes 226 = .ok (.invokevirtual 161, 3) := by decide +kernel
theorem dX10_writes_229 : decode cX10_writes 229 = .ok (.istore 7, 2) := by decide +kernel
theorem dX10_writes_231 : decode cX10_writes 231 = .ok (.iload 7, 2) := by decide +kernel
theorem dX10_writes_233 : decode cX10_writes 233 = .ok (.ifCond .ne 5, 3) := by decide +kernel
theorem dX10_writes_236 : decode cX10_writes 236 = .ok (.iconst 0, 1) := by decide +kernel
theorem dX10_writes_237 : decode cX10_writes 237 = .ok (.ireturn, 1) := by decide +kernel
theorem dX10_writes_238 : decode cX10_writes 238 = .ok (.aload_n 0, 1) := by decide +kernel
theorem dX10_writes_239 : decode cX10_writes 239 = .ok (.getfield 48, 3) := by decide +kernel
theorem dX10_writes_242 : decode cX10_writes 242 = .ok (.iload_n 3, 1) := by decide +kernel
theorem dX10_writes_243 : decode cX10_writes 243 = .ok (.iload 6, 2) := by decide +kernel
theorem dX10_writes_245 : decode cX10_writes 245 = .ok (.iadd, 1) := by decide +kernel
theorem dX10_writes_246 : decode cX10_writes 246 = .ok (.iaload, 1) := by decide +kernel
theorem dX10_writes_247 : decode cX10_writes 247 = .ok (.istore 5, 2) := by decide +kernel
theorem dX10_writes_249 : decode cX10_writes 249 = .ok (.aload_n 0, 1) := by decide +kernel
theorem dX10_writes_250 : decode cX10_writes 250 = .ok (.dup, 1) := by decide +kernel
theorem dX10_writes_251 : decode cX10_writes 251 = .ok (.getfield 141, 3) := by decide +kernel
theorem dX10_writes_254 : decode cX10_writes 254 = .ok (.iload 7, 2) := by decide +kernel
theorem dX10_writes_256 : decode cX10_writes 256 = .ok (.iadd, 1) := by decide +kernel
theorem dX10_writes_257 : decode cX10_writes 257 = .ok (.putfield 141, 3) := by decide +kernel
theorem dX10_writes_260 : decode cX10_writes 260 = .ok (.iinc 6 1, 3) := by decide +kernel
theorem dX10_writes_263 : decode cX10_writes 263 = .ok (.goto (-63), 3) := by decide +kernel
theorem dX10_writes_266 : decode cX10_writes 266 = .ok (.goto (-210), 3) := by decide +kernel
theorem dX10_writes_269 : decode cX10_writes 269 = .ok (.iconst 1, 1) := by decide +kernel
theorem dX10_writes_270 : decode cX10_writes 270 = .ok (.ireturn, 1) := by decide +kernel
theorem dX10_favours_0 : decode cX10_favours 0 = .ok (.aload_n 0, 1) := by decide +kernel
theorem dX10_favours_1 : decode cX10_favours 1 = .ok (.getfield 147, 3) := by decide +kernel
theorem dX10_favours_4 : decode cX10_favours 4 = .ok (.istore 4, 2) := by decide +kernel
theorem dX10_favours_6 : decode cX10_favours 6 = .ok (.iconst 0, 1) := by decide +kernel
theorem dX10_favours_7 : decode cX10_favours 7 = .ok (.istore 5, 2) := by decide +kernel
theorem dX10_favours_9 : decode cX10_favours 9 = .ok (.aload_n 0, 1) := by decide +kernel
theorem dX10_favours_10 : decode cX10_favours 10 = .ok (.iload 4, 2) := by decide +kernel
theorem dX10_favours_12 : decode cX10_favours 12 = .ok (.iconst 1, 1) := by decide +kernel
theorem dX10_favours_13 : decode cX10_favours 13 = .ok (.iadd, 1) := by decide +kernel
theorem dX10_favours_14 : decode cX10_favours 14 = .ok (.putfield 147, 3) := by decide +kernel
theorem dX10_favours_17 : decode cX10_favours 17 = .ok (.iconst 0, 1) := by decide +kernel
theorem dX10_favours_18 : decode cX10_favours 18 = .ok (.istore 6, 2) := by decide +kernel
theorem dX10_favours_20 : decode cX10_favours 20 = .ok (.iload 6, 2) := by decide +kernel
theorem dX10_favours_22 : decode cX10_favours 22 = .ok (.iload_n 3, 1) := by decide +kernel
theorem dX10_favours_23 : decode cX10_favours 23 = .ok (.if_icmp .ge 83, 3) := by decide +kernel
theorem dX10_favours_26 : decode cX10_favours 26 = .ok (.aload_n 0, 1) := by decide +kernel
theorem dX10_favours_27 : decode cX10_favours 27 = .ok (.getfield 60, 3) := by decide +kernel
theorem dX10_favours_30 : decode cX10_favours 30 = .ok (.iload 6, 2) := by decide +kernel
theorem dX10_favours_32 : decode cX10_favours 32 = .ok (.iconst 1, 1) := by decide +kernel
theorem dX10_favours_33 : decode cX10_favours 33 = .ok (.iastore, 1) := by decide +kernel
theorem dX10_favours_34 : decode cX10_favours 34 = .ok (.iconst 0, 1) := by decide +kernel
theorem dX10_favours_35 : decode cX10_favours 35 = .ok (.istore 7, 2) := by decide +kernel
theorem dX10_favours_37 : decode cX10_favours 37 = .ok (.iload 7, 2) := by decide +kernel
theorem dX10_favours_39 : decode cX10_favours 39 = .ok (.iload 6, 2) := by decide +kernel
theorem dX10_favours_41 : decode cX10_favours 41 = .ok (.if_icmp .ge 59, 3) := by decide +kernel
theorem dX10_favours_44 : decode cX10_favours 44 = .ok (.aload_n 0, 1) := by decide +kernel
theorem dX10_favours_45 : decode cX10_favours 45 = .ok (.getfield 60, 3) := by decide +kernel
theorem dX10_favours_48 : decode cX10_favours 48 = .ok (.iload 6, 2) := by decide +kernel
theorem dX10_favours_50 : decode cX10_favours 50 = .ok (.iaload, 1) := by decide +kernel
theorem dX10_favours_51 : decode cX10_favours 51 = .ok (.ifCond .le 49, 3) := by decide +kernel
theorem dX10_favours_54 : decode cX10_favours 54 = .ok (.aload_n 0, 1) := by decide +kernel
theorem dX10_favours_55 : decode cX10_favours 55 = .ok (.getfield 48, 3) := by decide +kernel
theorem dX10_favours_58 : decode cX10_favours 58 = .ok (.iload_n 2, 1) := by decide +kernel
theorem dX10_favours_59 : decode cX10_favours 59 = .ok (.iload 7, 2) := by decide +kernel
theorem dX10_favours_61 : decode cX10_favours 61 = .ok (.iadd, 1) := by decide +kernel
theorem dX10_favours_62 : decode cX10_favours 62 = .ok (.iaload, 1) := by decide +kernel
theorem dX10_favours_63 : decode cX10_favours 63 = .ok (.aload_n 0, 1) := by decide +kernel
theorem dX10_favours_64 : decode cX10_favours 64 = .ok (.getfield 48, 3) := by decide +kernel
theorem dX10_favours_67 : decode cX10_favours 67 = .ok (.iload_n 2, 1) := by decide +kernel
theorem dX10_favours_68 : decode cX10_favours 68 = .ok (.iload 6, 2) := by decide +kernel
theorem dX10_favours_70 : decode cX10_favours 70 = .ok (.iadd, 1) := by decide +kernel
theorem dX10_favours_71 : decode cX10_favours 71 = .ok (.iaload, 1) := by decide +kernel
theorem dX10_favours_72 : decode cX10_favours 72 = .ok (.if_icmp .ne 22, 3) := by decide +kernel
theorem dX10_favours_75 : decode cX10_favours 75 = .ok (.aload_n 0, 1) := by decide +kernel
theorem dX10_favours_76 : decode cX10_favours 76 = .ok (.getfield 60, 3) := by decide +kernel
theorem dX10_favours_79 : decode cX10_favours 79 = .ok (.iload 7, 2) := by decide +kernel
theorem dX10_favours_81 : decode cX10_favours 81 = .ok (.dup2, 1) := by decide +kernel
theorem dX10_favours_82 : decode cX10_favours 82 = .ok (.iaload, 1) := by decide +kernel
theorem dX10_favours_83 : decode cX10_favours 83 = .ok (.iconst 1, 1) := by decide +kernel
theorem dX10_favours_84 : decode cX10_favours 84 = .ok (.iadd, 1) := by decide +kernel
theorem dX10_favours_85 : decode cX10_favours 85 = .ok (.iastore, 1) := by decide +kernel
theorem dX10_favours_86 : decode cX10_favours 86 = .ok (.aload_n 0, 1) := by decide +kernel
theorem dX10_favours_87 : decode cX10_favours 87 = .ok (.getfield 60, 3) := by decide +kernel
theorem dX10_favours_90 : decode cX10_favours 90 = .ok (.iload 6, 2) := by decide +kernel
theorem dX10_favours_92 : decode cX10_favours 92 = .ok (.iconst 0, 1) := by decide +kernel
theorem dX10_favours_93 : decode cX10_favours 93 = .ok (.iastore, 1) := by decide +kernel
theorem dX10_favours_94 : decode cX10_favours 94 = .ok (.iinc 7 1, 3) := by decide +kernel
theorem dX10_favours_97 : decode cX10_favours 97 = .ok (.goto (-60), 3) := by decide +kernel
theorem dX10_favours_100 : decode cX10_favours 100 = .ok (.iinc 6 1, 3) := by decide +kernel
theorem dX10_favours_103 : decode cX10_favours 103 = .ok (.goto (-83), 3) := by decide +kernel
theorem dX10_favours_106 : decode cX10_favours 106 = .ok (.iconst 1, 1) := by decide +kernel
theorem dX10_favours_107 : decode cX10_favours 107 = .ok (.istore 6, 2) := by decide +kernel
theorem dX10_favours_109 : decode cX10_favours 109 = .ok (.iload 6, 2) := by decide +kernel
theorem dX10_favours_111 : decode cX10_favours 111 = .ok (.ifCond .eq 127, 3) := by decide +kernel
theorem dX10_favours_114 : decode cX10_favours 114 = .ok (.iload 5, 2) := by decide +kernel
theorem dX10_favours_116 : decode cX10_favours 116 = .ok (.aload_n 0, 1) := by decide +kernel
theorem dX10_favours_117 : decode cX10_favours 117 = .ok (.getfield 13, 3) := by decide +kernel
theorem dX10_favours_120 : decode cX10_favours 120 = .ok (.iload_n 1, 1) := by decide +kernel
theorem dX10_favours_121 : decode cX10_favours 121 = .ok (.iaload, 1) := by decide +kernel
theorem dX10_favours_122 : decode cX10_favours 122 = .ok (.if_icmp .ge 116, 3) := by decide +kernel
theorem dX10_favours_125 : decode cX10_favours 125 = .ok (.iconst 0, 1) := by decide +kernel
theorem dX10_favours_126 : decode cX10_favours 126 = .ok (.istore 7, 2) := by decide +kernel
theorem dX10_favours_128 : decode cX10_favours 128 = .ok (.iconst 1, 1) := by decide +kernel
theorem dX10_favours_129 : decode cX10_favours 129 = .ok (.istore 8, 2) := by decide +kernel
theorem dX10_favours_131 : decode cX10_favours 131 = .ok (.iload 8, 2) := by decide +kernel
theorem dX10_favours_133 : decode cX10_favours 133 = .ok (.iload_n 3, 1) := by decide +kernel
theorem dX10_favours_134 : decode cX10_favours 134 = .ok (.if_icmp .ge 35, 3) := by decide +kernel
theorem dX10_favours_137 : decode cX10_favours 137 = .ok (.aload_n 0, 1) := by decide +kernel
theorem dX10_favours_138 : decode cX10_favours 138 = .ok (.getfield 60, 3) := by decide +kernel
theorem dX10_favours_141 : decode cX10_favours 141 = .ok (.iload 8, 2) := by decide +kernel
theorem dX10_favours_143 : decode cX10_favours 143 = .ok (.iaload, 1) := by decide +kernel
theorem dX10_favours_144 : decode cX10_favours 144 = .ok (.aload_n 0, 1) := by decide +kernel
theorem dX10_favours_145 : decode cX10_favours 145 = .ok (.getfield 60, 3) := by decide +kernel
theorem dX10_favours_148 : decode cX10_favours 148 = .ok (.iload 7, 2) := by decide +kernel
theorem dX10_favours_150 : decode cX10_favours 150 = .ok (.iaload, 1) := by decide +kernel
theorem dX10_favours_151 : decode cX10_favours 151 = .ok (.if_icmp .le 8, 3) := by decide +kernel
theorem dX10_favours_154 : decode cX10_favours 154 = .ok (.iload 8, 2) := by decide +kernel
theorem dX10_favours_156 : decode cX10_favours 156 = .ok (.goto 5, 3) := by decide +kernel
theorem dX10_favours_159 : decode cX10_favours 159 = .ok (.iload 7, 2) := by decide +kernel
theorem dX10_favours_161 : decode cX10_favours 161 = .ok (.istore 7, 2) := by decide +kernel
theorem dX10_favours_163 : decode cX10_favours 163 = .ok (.iinc 8 1, 3) := by decide +kernel
theorem dX10_favours_166 : decode cX10_favours 166 = .ok (.goto (-35), 3) := by decide +kernel
theorem dX10_favours_169 : decode cX10_favours 169 = .ok (.iload_n 3, 1) := by decide +kernel
theorem dX10_favours_170 : decode cX10_favours 170 = .ok (.ifCond .le 18, 3) := by decide +kernel
theorem dX10_favours_173 : decode cX10_favours 173 = .ok (.aload_n 0, 1) := by decide +kernel
theorem dX10_favours_174 : decode cX10_favours 174 = .ok (.getfield 60, 3) := by decide +kernel
theorem dX10_favours_177 : decode cX10_favours 177 = .ok (.iload 7, 2) := by decide +kernel
theorem dX10_favours_179 : decode cX10_favours 179 = .ok (.iaload, 1) := by decide +kernel
theorem dX10_favours_180 : decode cX10_favours 180 = .ok (.iconst 1, 1) := by decide +kernel
theorem dX10_favours_181 : decode cX10_favours 181 = .ok (.if_icmp .le 7, 3) := by decide +kernel
theorem dX10_favours_184 : decode cX10_favours 184 = .ok (.iconst 1, 1) := by decide +kernel
theorem dX10_favours_185 : decode cX10_favours 185 = .ok (.goto 4, 3) := by decide +kernel
theorem dX10_favours_188 : decode cX10_favours 188 = .ok (.iconst 0, 1) := by decide +kernel
theorem dX10_favours_189 : decode cX10_favours 189 = .ok (.istore 6, 2) := by decide +kernel
theorem dX10_favours_191 : decode cX10_favours 191 = .ok (.iload 6, 2) := by decide +kernel
theorem dX10_favours_193 : decode cX10_favours 193 = .ok (.ifCond .eq 42, 3) := by decide +kernel
theorem dX10_favours_196 : decode cX10_favours 196 = .ok (.aload_n 0, 1) := by decide +kernel
theorem dX10_favours_197 : decode cX10_favours 197 = .ok (.getfield 48, 3) := by decide +kernel
theorem dX10_favours_200 : decode cX10_favours 200 = .ok (.aload_n 0, 1) := by decide +kernel
theorem dX10_favours_201 : decode cX10_favours 201 = .ok (.getfield 147, 3) := by decide +kernel
theorem dX10_favours_204 : decode cX10_favours 204 = .ok (.aload_n 0, 1) := by decide +kernel
theorem dX10_favours_205 : decode cX10_favours 205 = .ok (.getfield 48, 3) := by decide +kernel
theorem dX10_favours_208 : decode cX10_favours 208 = .ok (.iload_n 2, 1) := by decide +kernel
theorem dX10_favours_209 : decode cX10_favours 209 = .ok (.iload 7, 2) := by decide +kernel
theorem dX10_favours_211 : decode cX10_favours 211 = .ok (.iadd, 1) := by decide +kernel
theorem dX10_favours_212 : decode cX10_favours 212 = .ok (.iaload, 1) := by decide +kernel
theorem dX10_favours_213 : decode cX10_favours 213 = .ok (.iastore, 1) := by decide +kernel
theorem dX10_favours_214 : decode cX10_favours 214 = .ok (.aload_n 0, 1) := by decide +kernel
theorem dX10_favours_215 : decode cX10_favours 215 = .ok (.getfield 60, 3) := by decide +kernel
theorem dX10_favours_218 : decode cX10_favours 218 = .ok (.iload 7, 2) := by decide +kernel
theorem dX10_favours_220 : decode cX10_favours 220 = .ok (.iconst 0, 1) := by decide +kernel
theorem dX10_favours_221 : decode cX10_favours 221 = .ok (.iastore, 1) := by decide +kernel
theorem dX10_favours_222 : decode cX10_favours 222 = .ok (.aload_n 0, 1) := by decide +kernel
theorem dX10_favours_223 : decode cX10_favours 223 = .ok (.dup, 1) := by decide +kernel
theorem dX10_favours_224 : decode cX10_favours 224 = .ok (.getfield 147, 3) := by decide +kernel
theorem dX10_favours_227 : decode cX10_favours 227 = .ok (.iconst 1, 1) := by decide +kernel
theorem dX10_favours_228 : decode cX10_favours 228 = .ok (.iadd, 1) := by decide +kernel
theorem dX10_favours_229 : decode cX10_favours 229 = .ok (.putfield 147, 3) := by decide +kernel
theorem dX10_favours_232 : decode cX10_favours 232 = .ok (.iinc 5 1, 3) := by decide +kernel
theorem dX10_favours_235 : decode cX10_favours 235 = .ok (.goto (-126), 3) := by decide +kernel
theorem dX10_favours_238 : decode cX10_favours 238 = .ok (.aload_n 0, 1) := by decide +kernel
theorem dX10_favours_239 : decode cX10_favours 239 = .ok (.getfield 48, 3) := by decide +kernel
theorem dX10_favours_242 : decode cX10_favours 242 = .ok (.iload 4, 2) := by decide +kernel
theorem dX10_favours_244 : decode cX10_favours 244 = .ok (.iload 5, 2) := by decide +kernel
theorem dX10_favours_246 : decode cX10_favours 246 = .ok (.iastore, 1) := by decide +kernel
theorem dX10_favours_247 : decode cX10_favours 247 = .ok (.aload_n 0, 1) := by decide +kernel
theorem dX10_favours_248 : decode cX10_favours 248 = .ok (.getfield 147, 3) := by decide +kernel
theorem dX10_favours_251 : decode cX10_favours 251 = .ok (.istore 7, 2) := by decide +kernel
theorem dX10_favours_253 : decode cX10_favours 253 = .ok (.aload_n 0, 1) := by decide +kernel
theorem dX10_favours_254 : decode cX10_favours 254 = .ok (.dup, 1) := by decide +kernel
theorem dX10_favours_255 : decode cX10_favours 255 = .ok (.getfield 147, 3) := by decide +kernel
theorem dX10_favours_258 : decode cX10_favours 258 = .ok (.iload_n 3, 1) := by decide +kernel
theorem dX10_favours_259 : decode cX10_favours 259 = .ok (.iadd, 1) := by decide +kernel
theorem dX10_favours_260 : decode cX10_favours 260 = .ok (.putfield 147, 3) := by decide +kernel
theorem dX10_favours_263 : decode cX10_favours 263 = .ok (.aload_n 0, 1) := by decide +kernel
theorem dX10_favours_264 : decode cX10_favours 264 = .ok (.getfield 147, 3) := by decide +kernel
theorem dX10_favours_267 : decode cX10_favours 267 = .ok (.istore 8, 2) := by decide +kernel
theorem dX10_favours_269 : decode cX10_favours 269 = .ok (.iconst 0, 1) := by decide +kernel
theorem dX10_favours_270 : decode cX10_favours 270 = .ok (.istore 9, 2) := by decide +kernel
theorem dX10_favours_272 : decode cX10_favours 272 = .ok (.iload 9, 2) := by decide +kernel
theorem dX10_favours_274 : decode cX10_favours 274 = .ok (.iload_n 3, 1) := by decide +kernel
theorem dX10_favours_275 : decode cX10_favours 275 = .ok (.if_icmp .ge 108, 3) := by decide +kernel
theorem dX10_favours_278 : decode cX10_favours 278 = .ok (.iconst 0, 1) := by decide +kernel
theorem dX10_favours_279 : decode cX10_favours 279 = .ok (.istore 10, 2) := by decide +kernel
theorem dX10_favours_281 : decode cX10_favours 281 = .ok (.iconst 0, 1) := by decide +kernel
theorem dX10_favours_282 : decode cX10_favours 282 = .ok (.istore 11, 2) := by decide +kernel
theorem dX10_favours_284 : decode cX10_favours 284 = .ok (.iload 11, 2) := by decide +kernel
theorem dX10_favours_286 : decode cX10_favours 286 = .ok (.iload 5, 2) := by decide +kernel
theorem dX10_favours_288 : decode cX10_favours 288 = .ok (.if_icmp .ge 44, 3) := by decide +kernel
theorem dX10_favours_291 : decode cX10_favours 291 = .ok (.aload_n 0, 1) := by decide +kernel
theorem dX10_favours_292 : decode cX10_favours 292 = .ok (.getfield 48, 3) := by decide +kernel
theorem dX10_favours_295 : decode cX10_favours 295 = .ok (.iload 4, 2) := by decide +kernel
theorem dX10_favours_297 : decode cX10_favours 297 = .ok (.iconst 1, 1) := by decide +kernel
theorem dX10_favours_298 : decode cX10_favours 298 = .ok (.iadd, 1) := by decide +kernel
theorem dX10_favours_299 : decode cX10_favours 299 = .ok (.iload 11, 2) := by decide +kernel
theorem dX10_favours_301 : decode cX10_favours 301 = .ok (.iadd, 1) := by decide +kernel
theorem dX10_favours_302 : decode cX10_favours 302 = .ok (.iaload, 1) := by decide +kernel
theorem dX10_favours_303 : decode cX10_favours 303 = .ok (.aload_n 0, 1) := by decide +kernel
theorem dX10_favours_304 : decode cX10_favours 304 = .ok (.getfield 48, 3) := by decide +kernel
theorem dX10_favours_307 : decode cX10_favours 307 = .ok (.iload_n 2, 1) := by decide +kernel
theorem dX10_favours_308 : decode cX10_favours 308 = .ok (.iload 9, 2) := by decide +kernel
theorem dX10_favours_310 : decode cX10_favours 310 = .ok (.iadd, 1) := by decide +kernel
theorem dX10_favours_311 : decode cX10_favours 311 = .ok (.iaload, 1) := by decide +kernel
theorem dX10_favours_312 : decode cX10_favours 312 = .ok (.if_icmp .ne 10, 3) := by decide +kernel
theorem dX10_favours_315 : decode cX10_favours 315 = .ok (.iload 11, 2) := by decide +kernel
theorem dX10_favours_317 : decode cX10_favours 317 = .ok (.iconst 1, 1) := by decide +kernel
theorem dX10_favours_318 : decode cX10_favours 318 = .ok (.iadd, 1) := by decide +kernel
theorem dX10_favours_319 : decode cX10_favours 319 = .ok (.goto 5, 3) := by decide +kernel
theorem dX10_favours_322 : decode cX10_favours 322 = .ok (.iload 10, 2) := by decide +kernel
theorem dX10_favours_324 : decode cX10_favours 324 = .ok (.istore 10, 2) := by decide +kernel
theorem dX10_favours_326 : decode cX10_favours 326 = .ok (.iinc 11 1, 3) := by decide +kernel
theorem dX10_favours_329 : decode cX10_favours 329 = .ok (.goto (-45), 3) := by decide +kernel
theorem dX10_favours_332 : decode cX10_favours 332 = .ok (.aload_n 0, 1) := by decide +kernel
theorem dX10_favours_333 : decode cX10_favours 333 = .ok (.getfield 48, 3) := by decide +kernel
theorem dX10_favours_336 : decode cX10_favours 336 = .ok (.iload 7, 2) := by decide +kernel
theorem dX10_favours_338 : decode cX10_favours 338 = .ok (.iload 9, 2) := by decide +kernel
theorem dX10_favours_340 : decode cX10_favours 340 = .ok (.iadd, 1) := by decide +kernel
theorem dX10_favours_341 : decode cX10_favours 341 = .ok (.iload 10, 2) := by decide +kernel
theorem dX10_favours_343 : decode cX10_favours 343 = .ok (.iastore, 1) := by decide +kernel
theorem dX10_favours_344 : decode cX10_favours 344 = .ok (.iload 10, 2) := by decide +kernel
theorem dX10_favours_346 : decode cX10_favours 346 = .ok (.ifCond .ne 31, 3) := by decide +kernel
theorem dX10_favours_349 : decode cX10_favours 349 = .ok (.aload_n 0, 1) := by decide +kernel
theorem dX10_favours_350 : decode cX10_favours 350 = .ok (.getfield 48, 3) := by decide +kernel
theorem dX10_favours_353 : decode cX10_favours 353 = .ok (.aload_n 0, 1) := by decide +kernel
theorem dX10_favours_354 : decode cX10_favours 354 = .ok (.getfield 147, 3) := by decide +kernel
theorem dX10_favours_357 : decode cX10_favours 357 = .ok (.aload_n 0, 1) := by decide +kernel
theorem dX10_favours_358 : decode cX10_favours 358 = .ok (.getfield 48, 3) := by decide +kernel
theorem dX10_favours_361 : decode cX10_favours 361 = .ok (.iload_n 2, 1) := by decide +kernel
theorem dX10_favours_362 : decode cX10_favours 362 = .ok (.iload 9, 2) := by decide +kernel
theorem dX10_favours_364 : decode cX10_favours 364 = .ok (.iadd, 1) := by decide +kernel
theorem dX10_favours_365 : decode cX10_favours 365 = .ok (.iaload, 1) := by decide +kernel
theorem dX10_favours_366 : decode cX10_favours 366 = .ok (.iastore, 1) := by decide +kernel
theorem dX10_favours_367 : decode cX10_favours 367 = .ok (.aload_n 0, 1) := by decide +kernel
theorem dX10_favours_368 : decode cX10_favours 368 = .ok (.dup, 1) := by decide +kernel
theorem dX10_favours_369 : decode cX10_favours 369 = .ok (.getfield 147, 3) := by decide +kernel
theorem dX10_favours_372 : decode cX10_favours 372 = .ok (.iconst 1, 1) := by decide +kernel
theorem dX10_favours_373 : decode cX10_favours 373 = .ok (.iadd, 1) := by decide +kernel
theorem dX10_favours_374 : decode cX10_favours 374 = .ok (.putfield 147, 3) := by decide +kernel
theorem dX10_favours_377 : decode cX10_favours 377 = .ok (.iinc 9 1, 3) := by decide +kernel
theorem dX10_favours_380 : decode cX10_favours 380 = .ok (.goto (-108), 3) := by decide +kernel
theorem dX10_favours_383 : decode cX10_favours 383 = .ok (.aload_n 0, 1) := by decide +kernel
theorem dX10_favours_384 : decode cX10_favours 384 = .ok (.aload_n 0, 1) := by decide +kernel
theorem dX10_favours_385 : decode cX10_favours 385 = .ok (.getfield 22, 3) := by decide +kernel
theorem dX10_favours_388 : decode cX10_favours 388 = .ok (.iload_n 1, 1) := by decide +kernel
theorem dX10_favours_389 : decode cX10_favours 389 = .ok (.iaload, 1) := by decide +kernel
theorem dX10_favours_390 : decode cX10_favours 390 = .ok (.iload 8, 2) := by decide +kernel
theorem dX10_favours_392 : decode cX10_favours 392 = .ok (.aload_n 0, 1) := by decide +kernel
theorem dX10_favours_393 : decode cX10_favours 393 = .ok (.getfield 147, 3) := by decide +kernel
theorem dX10_favours_396 : decode cX10_favours 396 = .ok (.iload 8, 2) := by decide +kernel
theorem dX10_favours_398 : decode cX10_favours 398 = .ok (.isub, 1) := by decide +kernel
theorem dX10_favours_399 : decode cX10_favours 399 = .ok (.invokevirtual 150, 3) := by decide +kernel
theorem dX10_favours_402 : decode cX10_favours 402 = .ok (.aload_n 0, 1) := by decide +kernel
theorem dX10_favours_403 : decode cX10_favours 403 = .ok (.aload_n 0, 1) := by decide +kernel
theorem dX10_favours_404 : decode cX10_favours 404 = .ok (.getfield 19, 3) := by decide +kernel
theorem dX10_favours_407 : decode cX10_favours 407 = .ok (.iload_n 1, 1) := by decide +kernel
theorem dX10_favours_408 : decode cX10_favours 408 = .ok (.iaload, 1) := by decide +kernel
theorem dX10_favours_409 : decode cX10_favours 409 = .ok (.iload 7, 2) := by decide +kernel
theorem dX10_favours_411 : decode cX10_favours 411 = .ok (.iload_n 3, 1) := by decide +kernel
theorem dX10_favours_412 : decode cX10_favours 412 = .ok (.invokevirtual 150, 3) := by decide +kernel
theorem dX10_favours_415 : decode cX10_favours 415 = .ok (.aload_n 0, 1) := by decide +kernel
theorem dX10_favours_416 : decode cX10_favours 416 = .ok (.aload_n 0, 1) := by decide +kernel
theorem dX10_favours_417 : decode cX10_favours 417 = .ok (.getfield 16, 3) := by decide +kernel
theorem dX10_favours_420 : decode cX10_favours 420 = .ok (.iload_n 1, 1) := by decide +kernel
theorem dX10_favours_421 : decode cX10_favours 421 = .ok (.iaload, 1) := by decide +kernel
theorem dX10_favours_422 : decode cX10_favours 422 = .ok (.iload 4, 2) := by decide +kernel
theorem dX10_favours_424 : decode cX10_favours 424 = .ok (.iconst 1, 1) := by decide +kernel
theorem dX10_favours_425 : decode cX10_favours 425 = .ok (.iadd, 1) := by decide +kernel
theorem dX10_favours_426 : decode cX10_favours 426 = .ok (.iload 5, 2) := by decide +kernel
theorem dX10_favours_428 : decode cX10_favours 428 = .ok (.invokevirtual 150, 3) := by decide +kernel
theorem dX10_favours_431 : decode cX10_favours 431 = .ok (.aload_n 0, 1) := by decide +kernel
theorem dX10_favours_432 : decode cX10_favours 432 = .ok (.aload_n 0, 1) := by decide +kernel
theorem dX10_favours_433 : decode cX10_favours 433 = .ok (.getfield 16, 3) := by decide +kernel
theorem dX10_favours_436 : decode cX10_favours 436 = .ok (.iload_n 1, 1) := by decide +kernel
theorem dX10_favours_437 : decode cX10_favours 437 = .ok (.iaload, 1) := by decide +kernel
theorem dX10_favours_438 : decode cX10_favours 438 = .ok (.iload 4, 2) := by decide +kernel
theorem dX10_favours_440 : decode cX10_favours 440 = .ok (.iconst 1, 1) := by decide +kernel
theorem dX10_favours_441 : decode cX10_favours 441 = .ok (.invokevirtual 150, 3) := by decide +kernel
theorem dX10_favours_444 : decode cX10_favours 444 = .ok (.return_, 1) := by decide +kernel
theorem dX10_cost_0 : decode cX10_cost 0 = .ok (.aload_n 0, 1) := by decide +kernel
theorem dX10_cost_1 : decode cX10_cost 1 = .ok (.aload_n 0, 1) := by decide +kernel
theorem dX10_cost_2 : decode cX10_cost 2 = .ok (.iload_n 1, 1) := by decide +kernel
theorem dX10_cost_3 : decode cX10_cost 3 = .ok (.invokevirtual 113, 3) := by decide +kernel
theorem dX10_cost_6 : decode cX10_cost 6 = .ok (.ifCond .eq 7, 3) := by decide +kernel
theorem dX10_cost_9 : decode cX10_cost 9 = .ok (.iconst 0, 1) := by decide +kernel
theorem dX10_cost_10 : decode cX10_cost 10 = .ok (.goto 4, 3) := by decide +kernel
theorem dX10_cost_13 : decode cX10_cost 13 = .ok (.iconst 1, 1) := by decide +kernel
theorem dX10_cost_14 : decode cX10_cost 14 = .ok (.invokevirtual 105, 3) := by decide +kernel
theorem dX10_cost_17 : decode cX10_cost 17 = .ok (.ifCond .eq 5, 3) := by decide +kernel
theorem dX10_cost_20 : decode cX10_cost 20 = .ok (.iconst 0, 1) := by decide +kernel
theorem dX10_cost_21 : decode cX10_cost 21 = .ok (.ireturn, 1) := by decide +kernel
theorem dX10_cost_22 : decode cX10_cost 22 = .ok (.aload_n 0, 1) := by decide +kernel
theorem dX10_cost_23 : decode cX10_cost 23 = .ok (.iload_n 1, 1) := by decide +kernel
theorem dX10_cost_24 : decode cX10_cost 24 = .ok (.invokevirtual 165, 3) := by decide +kernel
theorem dX10_cost_27 : decode cX10_cost 27 = .ok (.ifCond .eq 10, 3) := by decide +kernel
theorem dX10_cost_30 : decode cX10_cost 30 = .ok (.aload_n 0, 1) := by decide +kernel
theorem dX10_cost_31 : decode cX10_cost 31 = .ok (.getfield 141, 3) := by decide +kernel
theorem dX10_cost_34 : decode cX10_cost 34 = .ok (.goto 4, 3) := by decide +kernel
theorem dX10_cost_37 : decode cX10_cost 37 = .ok (.iconst (-1), 1) := by decide +kernel
theorem dX10_cost_38 : decode cX10_cost 38 = .ok (.ireturn, 1) := by decide +kernel
theorem dX10_pack_0 : decode cX10_pack 0 = .ok (.aload_n 0, 1) := by decide +kernel
theorem dX10_pack_1 : decode cX10_pack 1 = .ok (.aload_n 0, 1) := by decide +kernel
theorem dX10_pack_2 : decode cX10_pack 2 = .ok (.iload_n 1, 1) := by decide +kernel
theorem dX10_pack_3 : decode cX10_pack 3 = .ok (.invokevirtual 113, 3) := by decide +kernel
theorem dX10_pack_6 : decode cX10_pack 6 = .ok (.ifCond .eq 7, 3) := by decide +kernel
theorem dX10_pack_9 : decode cX10_pack 9 = .ok (.iconst 0, 1) := by decide +kernel
theorem dX10_pack_10 : decode cX10_pack 10 = .ok (.goto 4, 3) := by decide +kernel
theorem dX10_pack_13 : decode cX10_pack 13 = .ok (.iconst 1, 1) := by decide +kernel
theorem dX10_pack_14 : decode cX10_pack 14 = .ok (.invokevirtual 105, 3) := by decide +kernel
theorem dX10_pack_17 : decode cX10_pack 17 = .ok (.ifCond .eq 5, 3) := by decide +kernel
theorem dX10_pack_20 : decode cX10_pack 20 = .ok (.iconst 0, 1) := by decide +kernel
theorem dX10_pack_21 : decode cX10_pack 21 = .ok (.ireturn, 1) := by decide +kernel
theorem dX10_pack_22 : decode cX10_pack 22 = .ok (.aload_n 0, 1) := by decide +kernel
theorem dX10_pack_23 : decode cX10_pack 23 = .ok (.iload_n 1, 1) := by decide +kernel
theorem dX10_pack_24 : decode cX10_pack 24 = .ok (.invokevirtual 165, 3) := by decide +kernel
theorem dX10_pack_27 : decode cX10_pack 27 = .ok (.ifCond .ne 5, 3) := by decide +kernel
theorem dX10_pack_30 : decode cX10_pack 30 = .ok (.iconst (-1), 1) := by decide +kernel
theorem dX10_pack_31 : decode cX10_pack 31 = .ok (.ireturn, 1) := by decide +kernel
theorem dX10_pack_32 : decode cX10_pack 32 = .ok (.aload_n 0, 1) := by decide +kernel
theorem dX10_pack_33 : decode cX10_pack 33 = .ok (.aload_n 0, 1) := by decide +kernel
theorem dX10_pack_34 : decode cX10_pack 34 = .ok (.getfield 168, 3) := by decide +kernel
theorem dX10_pack_37 : decode cX10_pack 37 = .ok (.aload_n 0, 1) := by decide +kernel
theorem dX10_pack_38 : decode cX10_pack 38 = .ok (.getfield 141, 3) := by decide +kernel
end
section
theorem dX10_pack_41 : decode cX10_pack 41 = .ok (.iadd, 1) := by decide +kernel
theorem dX10_pack_42 : decode cX10_pack 42 = .ok (.sipush 8000, 3) := by decide +kernel
theorem dX10_pack_45 : decode cX10_pack 45 = .ok (.if_icmp .le 7, 3) := by decide +kernel
theorem dX10_pack_48 : decode cX10_pack 48 = .ok (.iconst 2, 1) := by decide +kernel
theorem dX10_pack_49 : decode cX10_pack 49 = .ok (.goto 4, 3) := by decide +kernel
theorem dX10_pack_52 : decode cX10_pack 52 = .ok (.iconst 0, 1) := by decide +kernel
theorem dX10_pack_53 : decode cX10_pack 53 = .ok (.invokevirtual 105, 3) := by decide +kernel
theorem dX10_pack_56 : decode cX10_pack 56 = .ok (.ifCond .eq 5, 3) := by decide +kernel
theorem dX10_pack_59 : decode cX10_pack 59 = .ok (.iconst 0, 1) := by decide +kernel
theorem dX10_pack_60 : decode cX10_pack 60 = .ok (.ireturn, 1) := by decide +kernel
theorem dX10_pack_61 : decode cX10_pack 61 = .ok (.iconst 0, 1) := by decide +kernel
theorem dX10_pack_62 : decode cX10_pack 62 = .ok (.istore_n 2, 1) := by decide +kernel
theorem dX10_pack_63 : decode cX10_pack 63 = .ok (.iload_n 2, 1) := by decide +kernel
theorem dX10_pack_64 : decode cX10_pack 64 = .ok (.aload_n 0, 1) := by decide +kernel
theorem dX10_pack_65 : decode cX10_pack 65 = .ok (.getfield 141, 3) := by decide +kernel
theorem dX10_pack_68 : decode cX10_pack 68 = .ok (.if_icmp .ge 26, 3) := by decide +kernel
theorem dX10_pack_71 : decode cX10_pack 71 = .ok (.aload_n 0, 1) := by decide +kernel
theorem dX10_pack_72 : decode cX10_pack 72 = .ok (.getfield 31, 3) := by decide +kernel
theorem dX10_pack_75 : decode cX10_pack 75 = .ok (.aload_n 0, 1) := by decide +kernel
theorem dX10_pack_76 : decode cX10_pack 76 = .ok (.getfield 168, 3) := by decide +kernel
theorem dX10_pack_79 : decode cX10_pack 79 = .ok (.iload_n 2, 1) := by decide +kernel
theorem dX10_pack_80 : decode cX10_pack 80 = .ok (.iadd, 1) := by decide +kernel
theorem dX10_pack_81 : decode cX10_pack 81 = .ok (.aload_n 0, 1) := by decide +kernel
theorem dX10_pack_82 : decode cX10_pack 82 = .ok (.getfield 63, 3) := by decide +kernel
theorem dX10_pack_85 : decode cX10_pack 85 = .ok (.iload_n 2, 1) := by decide +kernel
theorem dX10_pack_86 : decode cX10_pack 86 = .ok (.iaload, 1) := by decide +kernel
theorem dX10_pack_87 : decode cX10_pack 87 = .ok (.iastore, 1) := by decide +kernel
theorem dX10_pack_88 : decode cX10_pack 88 = .ok (.iinc 2 1, 3) := by decide +kernel
theorem dX10_pack_91 : decode cX10_pack 91 = .ok (.goto (-28), 3) := by decide +kernel
theorem dX10_pack_94 : decode cX10_pack 94 = .ok (.aload_n 0, 1) := by decide +kernel
theorem dX10_pack_95 : decode cX10_pack 95 = .ok (.dup, 1) := by decide +kernel
theorem dX10_pack_96 : decode cX10_pack 96 = .ok (.getfield 168, 3) := by decide +kernel
theorem dX10_pack_99 : decode cX10_pack 99 = .ok (.aload_n 0, 1) := by decide +kernel
theorem dX10_pack_100 : decode cX10_pack 100 = .ok (.getfield 141, 3) := by decide +kernel
theorem dX10_pack_103 : decode cX10_pack 103 = .ok (.iadd, 1) := by decide +kernel
theorem dX10_pack_104 : decode cX10_pack 104 = .ok (.putfield 168, 3) := by decide +kernel
theorem dX10_pack_107 : decode cX10_pack 107 = .ok (.aload_n 0, 1) := by decide +kernel
theorem dX10_pack_108 : decode cX10_pack 108 = .ok (.getfield 141, 3) := by decide +kernel
theorem dX10_pack_111 : decode cX10_pack 111 = .ok (.ireturn, 1) := by decide +kernel
theorem dX10_into_0 : decode cX10_into 0 = .ok (.aload_n 0, 1) := by decide +kernel
theorem dX10_into_1 : decode cX10_into 1 = .ok (.getfield 66, 3) := by decide +kernel
theorem dX10_into_4 : decode cX10_into 4 = .ok (.iload_n 1, 1) := by decide +kernel
theorem dX10_into_5 : decode cX10_into 5 = .ok (.iload_n 2, 1) := by decide +kernel
theorem dX10_into_6 : decode cX10_into 6 = .ok (.iastore, 1) := by decide +kernel
theorem dX10_into_7 : decode cX10_into 7 = .ok (.aload_n 0, 1) := by decide +kernel
theorem dX10_into_8 : decode cX10_into 8 = .ok (.getfield 69, 3) := by decide +kernel
theorem dX10_into_11 : decode cX10_into 11 = .ok (.iload_n 1, 1) := by decide +kernel
theorem dX10_into_12 : decode cX10_into 12 = .ok (.iload_n 3, 1) := by decide +kernel
theorem dX10_into_13 : decode cX10_into 13 = .ok (.iastore, 1) := by decide +kernel
theorem dX10_into_14 : decode cX10_into 14 = .ok (.aload_n 0, 1) := by decide +kernel
theorem dX10_into_15 : decode cX10_into 15 = .ok (.getfield 72, 3) := by decide +kernel
theorem dX10_into_18 : decode cX10_into 18 = .ok (.iload_n 1, 1) := by decide +kernel
theorem dX10_into_19 : decode cX10_into 19 = .ok (.iload 4, 2) := by decide +kernel
theorem dX10_into_21 : decode cX10_into 21 = .ok (.iastore, 1) := by decide +kernel
theorem dX10_into_22 : decode cX10_into 22 = .ok (.aload_n 0, 1) := by decide +kernel
theorem dX10_into_23 : decode cX10_into 23 = .ok (.getfield 75, 3) := by decide +kernel
theorem dX10_into_26 : decode cX10_into 26 = .ok (.iload_n 1, 1) := by decide +kernel
theorem dX10_into_27 : decode cX10_into 27 = .ok (.iconst 0, 1) := by decide +kernel
theorem dX10_into_28 : decode cX10_into 28 = .ok (.iastore, 1) := by decide +kernel
theorem dX10_into_29 : decode cX10_into 29 = .ok (.return_, 1) := by decide +kernel
theorem dX10_room_0 : decode cX10_room 0 = .ok (.aload_n 0, 1) := by decide +kernel
theorem dX10_room_1 : decode cX10_room 1 = .ok (.dup, 1) := by decide +kernel
theorem dX10_room_2 : decode cX10_room 2 = .ok (.getfield 147, 3) := by decide +kernel
theorem dX10_room_5 : decode cX10_room 5 = .ok (.iload_n 1, 1) := by decide +kernel
theorem dX10_room_6 : decode cX10_room 6 = .ok (.iadd, 1) := by decide +kernel
theorem dX10_room_7 : decode cX10_room 7 = .ok (.putfield 147, 3) := by decide +kernel
theorem dX10_room_10 : decode cX10_room 10 = .ok (.aload_n 0, 1) := by decide +kernel
theorem dX10_room_11 : decode cX10_room 11 = .ok (.getfield 147, 3) := by decide +kernel
theorem dX10_room_14 : decode cX10_room 14 = .ok (.iload_n 1, 1) := by decide +kernel
theorem dX10_room_15 : decode cX10_room 15 = .ok (.isub, 1) := by decide +kernel
theorem dX10_room_16 : decode cX10_room 16 = .ok (.ireturn, 1) := by decide +kernel
theorem dX10_fails_0 : decode cX10_fails 0 = .ok (.aload_n 0, 1) := by decide +kernel
theorem dX10_fails_1 : decode cX10_fails 1 = .ok (.iload_n 1, 1) := by decide +kernel
theorem dX10_fails_2 : decode cX10_fails 2 = .ok (.putfield 171, 3) := by decide +kernel
theorem dX10_fails_5 : decode cX10_fails 5 = .ok (.aload_n 0, 1) := by decide +kernel
theorem dX10_fails_6 : decode cX10_fails 6 = .ok (.iload_n 2, 1) := by decide +kernel
theorem dX10_fails_7 : decode cX10_fails 7 = .ok (.putfield 174, 3) := by decide +kernel
theorem dX10_fails_10 : decode cX10_fails 10 = .ok (.return_, 1) := by decide +kernel
theorem dX10_readsCodes_0 : decode cX10_readsCodes 0 = .ok (.iconst 0, 1) := by decide +kernel
theorem dX10_readsCodes_1 : decode cX10_readsCodes 1 = .ok (.istore 4, 2) := by decide +kernel
theorem dX10_readsCodes_3 : decode cX10_readsCodes 3 = .ok (.iconst 0, 1) := by decide +kernel
theorem dX10_readsCodes_4 : decode cX10_readsCodes 4 = .ok (.istore 5, 2) := by decide +kernel
theorem dX10_readsCodes_6 : decode cX10_readsCodes 6 = .ok (.iload 5, 2) := by decide +kernel
theorem dX10_readsCodes_8 : decode cX10_readsCodes 8 = .ok (.iload_n 2, 1) := by decide +kernel
theorem dX10_readsCodes_9 : decode cX10_readsCodes 9 = .ok (.if_icmp .ge 278, 3) := by decide +kernel
theorem dX10_readsCodes_12 : decode cX10_readsCodes 12 = .ok (.aload_n 0, 1) := by decide +kernel
theorem dX10_readsCodes_13 : decode cX10_readsCodes 13 = .ok (.getfield 171, 3) := by decide +kernel
theorem dX10_readsCodes_16 : decode cX10_readsCodes 16 = .ok (.ifCond .ne 271, 3) := by decide +kernel
theorem dX10_readsCodes_19 : decode cX10_readsCodes 19 = .ok (.aload_n 0, 1) := by decide +kernel
theorem dX10_readsCodes_20 : decode cX10_readsCodes 20 = .ok (.getfield 177, 3) := by decide +kernel
theorem dX10_readsCodes_23 : decode cX10_readsCodes 23 = .ok (.istore 6, 2) := by decide +kernel
theorem dX10_readsCodes_25 : decode cX10_readsCodes 25 = .ok (.lconst 0, 1) := by decide +kernel
theorem dX10_readsCodes_26 : decode cX10_readsCodes 26 = .ok (.lstore 7, 2) := by decide +kernel
theorem dX10_readsCodes_28 : decode cX10_readsCodes 28 = .ok (.lconst 1, 1) := by decide +kernel
theorem dX10_readsCodes_29 : decode cX10_readsCodes 29 = .ok (.lstore 9, 2) := by decide +kernel
theorem dX10_readsCodes_31 : decode cX10_readsCodes 31 = .ok (.aload_n 0, 1) := by decide +kernel
theorem dX10_readsCodes_32 : decode cX10_readsCodes 32 = .ok (.getfield 13, 3) := by decide +kernel
theorem dX10_readsCodes_35 : decode cX10_readsCodes 35 = .ok (.iload_n 1, 1) := by decide +kernel
theorem dX10_readsCodes_36 : decode cX10_readsCodes 36 = .ok (.iaload, 1) := by decide +kernel
theorem dX10_readsCodes_37 : decode cX10_readsCodes 37 = .ok (.istore 11, 2) := by decide +kernel
theorem dX10_readsCodes_39 : decode cX10_readsCodes 39 = .ok (.iload 11, 2) := by decide +kernel
theorem dX10_readsCodes_41 : decode cX10_readsCodes 41 = .ok (.ifCond .le 103, 3) := by decide +kernel
theorem dX10_readsCodes_44 : decode cX10_readsCodes 44 = .ok (.aload_n 0, 1) := by decide +kernel
theorem dX10_readsCodes_45 : decode cX10_readsCodes 45 = .ok (.getfield 171, 3) := by decide +kernel
theorem dX10_readsCodes_48 : decode cX10_readsCodes 48 = .ok (.ifCond .ne 96, 3) := by decide +kernel
theorem dX10_readsCodes_51 : decode cX10_readsCodes 51 = .ok (.aload_n 0, 1) := by decide +kernel
theorem dX10_readsCodes_52 : decode cX10_readsCodes 52 = .ok (.getfield 177, 3) := by decide +kernel
theorem dX10_readsCodes_55 : decode cX10_readsCodes 55 = .ok (.aload_n 0, 1) := by decide +kernel
theorem dX10_readsCodes_56 : decode cX10_readsCodes 56 = .ok (.getfield 168, 3) := by decide +kernel
theorem dX10_readsCodes_59 : decode cX10_readsCodes 59 = .ok (.if_icmp .ne 13, 3) := by decide +kernel
theorem dX10_readsCodes_62 : decode cX10_readsCodes 62 = .ok (.aload_n 0, 1) := by decide +kernel
theorem dX10_readsCodes_63 : decode cX10_readsCodes 63 = .ok (.iconst 1, 1) := by decide +kernel
theorem dX10_readsCodes_64 : decode cX10_readsCodes 64 = .ok (.iload 6, 2) := by decide +kernel
theorem dX10_readsCodes_66 : decode cX10_readsCodes 66 = .ok (.invokevirtual 180, 3) := by decide +kernel
theorem dX10_readsCodes_69 : decode cX10_readsCodes 69 = .ok (.goto (-30), 3) := by decide +kernel
theorem dX10_readsCodes_72 : decode cX10_readsCodes 72 = .ok (.aload_n 0, 1) := by decide +kernel
theorem dX10_readsCodes_73 : decode cX10_readsCodes 73 = .ok (.getfield 31, 3) := by decide +kernel
theorem dX10_readsCodes_76 : decode cX10_readsCodes 76 = .ok (.aload_n 0, 1) := by decide +kernel
theorem dX10_readsCodes_77 : decode cX10_readsCodes 77 = .ok (.getfield 177, 3) := by decide +kernel
theorem dX10_readsCodes_80 : decode cX10_readsCodes 80 = .ok (.iaload, 1) := by decide +kernel
theorem dX10_readsCodes_81 : decode cX10_readsCodes 81 = .ok (.istore 12, 2) := by decide +kernel
theorem dX10_readsCodes_83 : decode cX10_readsCodes 83 = .ok (.aload_n 0, 1) := by decide +kernel
theorem dX10_readsCodes_84 : decode cX10_readsCodes 84 = .ok (.dup, 1) := by decide +kernel
theorem dX10_readsCodes_85 : decode cX10_readsCodes 85 = .ok (.getfield 177, 3) := by decide +kernel
theorem dX10_readsCodes_88 : decode cX10_readsCodes 88 = .ok (.iconst 1, 1) := by decide +kernel
theorem dX10_readsCodes_89 : decode cX10_readsCodes 89 = .ok (.iadd, 1) := by decide +kernel
theorem dX10_readsCodes_90 : decode cX10_readsCodes 90 = .ok (.putfield 177, 3) := by decide +kernel
theorem dX10_readsCodes_93 : decode cX10_readsCodes 93 = .ok (.lload 7, 2) := by decide +kernel
theorem dX10_readsCodes_95 : decode cX10_readsCodes 95 = .ok (.iload 12, 2) := by decide +kernel
theorem dX10_readsCodes_97 : decode cX10_readsCodes 97 = .ok (.i2l, 1) := by decide +kernel
theorem dX10_readsCodes_98 : decode cX10_readsCodes 98 = .ok (.lload 9, 2) := by decide +kernel
theorem dX10_readsCodes_100 : decode cX10_readsCodes 100 = .ok (.lmul, 1) := by decide +kernel
theorem dX10_readsCodes_101 : decode cX10_readsCodes 101 = .ok (.ladd, 1) := by decide +kernel
theorem dX10_readsCodes_102 : decode cX10_readsCodes 102 = .ok (.lstore 7, 2) := by decide +kernel
theorem dX10_readsCodes_104 : decode cX10_readsCodes 104 = .ok (.lload 9, 2) := by decide +kernel
theorem dX10_readsCodes_106 : decode cX10_readsCodes 106 = .ok (.aload_n 0, 1) := by decide +kernel
theorem dX10_readsCodes_107 : decode cX10_readsCodes 107 = .ok (.getfield 16, 3) := by decide +kernel
theorem dX10_readsCodes_110 : decode cX10_readsCodes 110 = .ok (.iload_n 1, 1) := by decide +kernel
theorem dX10_readsCodes_111 : decode cX10_readsCodes 111 = .ok (.iaload, 1) := by decide +kernel
theorem dX10_readsCodes_112 : decode cX10_readsCodes 112 = .ok (.i2l, 1) := by decide +kernel
theorem dX10_readsCodes_113 : decode cX10_readsCodes 113 = .ok (.lmul, 1) := by decide +kernel
theorem dX10_readsCodes_114 : decode cX10_readsCodes 114 = .ok (.lstore 9, 2) := by decide +kernel
theorem dX10_readsCodes_116 : decode cX10_readsCodes 116 = .ok (.iload 12, 2) := by decide +kernel
theorem dX10_readsCodes_118 : decode cX10_readsCodes 118 = .ok (.sipush 256, 3) := by decide +kernel
theorem dX10_readsCodes_121 : decode cX10_readsCodes 121 = .ok (.aload_n 0, 1) := by decide +kernel
theorem dX10_readsCodes_122 : decode cX10_readsCodes 122 = .ok (.getfield 16, 3) := by decide +kernel
theorem dX10_readsCodes_125 : decode cX10_readsCodes 125 = .ok (.iload_n 1, 1) := by decide +kernel
theorem dX10_readsCodes_126 : decode cX10_readsCodes 126 = .ok (.iaload, 1) := by decide +kernel
theorem dX10_readsCodes_127 : decode cX10_readsCodes 127 = .ok (.isub, 1) := by decide +kernel
theorem dX10_readsCodes_128 : decode cX10_readsCodes 128 = .ok (.if_icmp .ge 7, 3) := by decide +kernel
theorem dX10_readsCodes_131 : decode cX10_readsCodes 131 = .ok (.iconst 0, 1) := by decide +kernel
theorem dX10_readsCodes_132 : decode cX10_readsCodes 132 = .ok (.goto 7, 3) := by decide +kernel
theorem dX10_readsCodes_135 : decode cX10_readsCodes 135 = .ok (.iload 11, 2) := by decide +kernel
theorem dX10_readsCodes_137 : decode cX10_readsCodes 137 = .ok (.iconst 1, 1) := by decide +kernel
theorem dX10_readsCodes_138 : decode cX10_readsCodes 138 = .ok (.isub, 1) := by decide +kernel
theorem dX10_readsCodes_139 : decode cX10_readsCodes 139 = .ok (.istore 11, 2) := by decide +kernel
theorem dX10_readsCodes_141 : decode cX10_readsCodes 141 = .ok (.goto (-102), 3) := by decide +kernel
theorem dX10_readsCodes_144 : decode cX10_readsCodes 144 = .ok (.aload_n 0, 1) := by decide +kernel
theorem dX10_readsCodes_145 : decode cX10_readsCodes 145 = .ok (.getfield 19, 3) := by decide +kernel
theorem dX10_readsCodes_148 : decode cX10_readsCodes 148 = .ok (.iload_n 1, 1) := by decide +kernel
theorem dX10_readsCodes_149 : decode cX10_readsCodes 149 = .ok (.iaload, 1) := by decide +kernel
theorem dX10_readsCodes_150 : decode cX10_readsCodes 150 = .ok (.istore 12, 2) := by decide +kernel
theorem dX10_readsCodes_152 : decode cX10_readsCodes 152 = .ok (.iload 12, 2) := by decide +kernel
theorem dX10_readsCodes_154 : decode cX10_readsCodes 154 = .ok (.ifCond .le 21, 3) := by decide +kernel
theorem dX10_readsCodes_157 : decode cX10_readsCodes 157 = .ok (.lload 7, 2) := by decide +kernel
theorem dX10_readsCodes_159 : decode cX10_readsCodes 159 = .ok (.lconst 1, 1) := by decide +kernel
theorem dX10_readsCodes_160 : decode cX10_readsCodes 160 = .ok (.ladd, 1) := by decide +kernel
theorem dX10_readsCodes_161 : decode cX10_readsCodes 161 = .ok (.lconst 1, 1) := by decide +kernel
theorem dX10_readsCodes_162 : decode cX10_readsCodes 162 = .ok (.iload 12, 2) := by decide +kernel
theorem dX10_readsCodes_164 : decode cX10_readsCodes 164 = .ok (.lshl, 1) := by decide +kernel
theorem dX10_readsCodes_165 : decode cX10_readsCodes 165 = .ok (.lrem, 1) := by decide +kernel
theorem dX10_readsCodes_166 : decode cX10_readsCodes 166 = .ok (.lconst 0, 1) := by decide +kernel
theorem dX10_readsCodes_167 : decode cX10_readsCodes 167 = .ok (.lcmp, 1) := by decide +kernel
theorem dX10_readsCodes_168 : decode cX10_readsCodes 168 = .ok (.ifCond .ne 7, 3) := by decide +kernel
theorem dX10_readsCodes_171 : decode cX10_readsCodes 171 = .ok (.iconst 1, 1) := by decide +kernel
theorem dX10_readsCodes_172 : decode cX10_readsCodes 172 = .ok (.goto 4, 3) := by decide +kernel
theorem dX10_readsCodes_175 : decode cX10_readsCodes 175 = .ok (.iconst 0, 1) := by decide +kernel
theorem dX10_readsCodes_176 : decode cX10_readsCodes 176 = .ok (.istore 13, 2) := by decide +kernel
theorem dX10_readsCodes_178 : decode cX10_readsCodes 178 = .ok (.iload 13, 2) := by decide +kernel
theorem dX10_readsCodes_180 : decode cX10_readsCodes 180 = .ok (.ifCond .eq 14, 3) := by decide +kernel
theorem dX10_readsCodes_183 : decode cX10_readsCodes 183 = .ok (.lload 7, 2) := by decide +kernel
theorem dX10_readsCodes_185 : decode cX10_readsCodes 185 = .ok (.lconst 1, 1) := by decide +kernel
theorem dX10_readsCodes_186 : decode cX10_readsCodes 186 = .ok (.ladd, 1) := by decide +kernel
theorem dX10_readsCodes_187 : decode cX10_readsCodes 187 = .ok (.iload 12, 2) := by decide +kernel
theorem dX10_readsCodes_189 : decode cX10_readsCodes 189 = .ok (.lshr, 1) := by decide +kernel
theorem dX10_readsCodes_190 : decode cX10_readsCodes 190 = .ok (.lneg, 1) := by decide +kernel
theorem dX10_readsCodes_191 : decode cX10_readsCodes 191 = .ok (.goto 21, 3) := by decide +kernel
theorem dX10_readsCodes_194 : decode cX10_readsCodes 194 = .ok (.iload 12, 2) := by decide +kernel
theorem dX10_readsCodes_196 : decode cX10_readsCodes 196 = .ok (.ifCond .ne 8, 3) := by decide +kernel
theorem dX10_readsCodes_199 : decode cX10_readsCodes 199 = .ok (.lload 7, 2) := by decide +kernel
theorem dX10_readsCodes_201 : decode cX10_readsCodes 201 = .ok (.goto 11, 3) := by decide +kernel
theorem dX10_readsCodes_204 : decode cX10_readsCodes 204 = .ok (.lload 7, 2) := by decide +kernel
theorem dX10_readsCodes_206 : decode cX10_readsCodes 206 = .ok (.lload 7, 2) := by decide +kernel
theorem dX10_readsCodes_208 : decode cX10_readsCodes 208 = .ok (.iload 12, 2) := by decide +kernel
theorem dX10_readsCodes_210 : decode cX10_readsCodes 210 = .ok (.lshr, 1) := by decide +kernel
theorem dX10_readsCodes_211 : decode cX10_readsCodes 211 = .ok (.lsub, 1) := by decide +kernel
theorem dX10_readsCodes_212 : decode cX10_readsCodes 212 = .ok (.lstore 14, 2) := by decide +kernel
theorem dX10_readsCodes_214 : decode cX10_readsCodes 214 = .ok (.aload_n 0, 1) := by decide +kernel
theorem dX10_readsCodes_215 : decode cX10_readsCodes 215 = .ok (.getfield 171, 3) := by decide +kernel
theorem dX10_readsCodes_218 : decode cX10_readsCodes 218 = .ok (.ifCond .ne 28, 3) := by decide +kernel
theorem dX10_readsCodes_221 : decode cX10_readsCodes 221 = .ok (.lload 7, 2) := by decide +kernel
theorem dX10_readsCodes_223 : decode cX10_readsCodes 223 = .ok (.ldc2_w 133, 3) := by decide +kernel
theorem dX10_readsCodes_226 : decode cX10_readsCodes 226 = .ok (.lcmp, 1) := by decide +kernel
theorem dX10_readsCodes_227 : decode cX10_readsCodes 227 = .ok (.ifCond .ge 12, 3) := by decide +kernel
theorem dX10_readsCodes_230 : decode cX10_readsCodes 230 = .ok (.lload 14, 2) := by decide +kernel
theorem dX10_readsCodes_232 : decode cX10_readsCodes 232 = .ok (.ldc2_w 184, 3) := by decide +kernel
theorem dX10_readsCodes_235 : decode cX10_readsCodes 235 = .ok (.lcmp, 1) := by decide +kernel
theorem dX10_readsCodes_236 : decode cX10_readsCodes 236 = .ok (.ifCond .lt 10, 3) := by decide +kernel
theorem dX10_readsCodes_239 : decode cX10_readsCodes 239 = .ok (.aload_n 0, 1) := by decide +kernel
theorem dX10_readsCodes_240 : decode cX10_readsCodes 240 = .ok (.iconst 2, 1) := by decide +kernel
theorem dX10_readsCodes_241 : decode cX10_readsCodes 241 = .ok (.iload 6, 2) := by decide +kernel
theorem dX10_readsCodes_243 : decode cX10_readsCodes 243 = .ok (.invokevirtual 180, 3) := by decide +kernel
theorem dX10_readsCodes_246 : decode cX10_readsCodes 246 = .ok (.aload_n 0, 1) := by decide +kernel
theorem dX10_readsCodes_247 : decode cX10_readsCodes 247 = .ok (.getfield 22, 3) := by decide +kernel
theorem dX10_readsCodes_250 : decode cX10_readsCodes 250 = .ok (.iload_n 1, 1) := by decide +kernel
theorem dX10_readsCodes_251 : decode cX10_readsCodes 251 = .ok (.iaload, 1) := by decide +kernel
theorem dX10_readsCodes_252 : decode cX10_readsCodes 252 = .ok (.iconst 1, 1) := by decide +kernel
theorem dX10_readsCodes_253 : decode cX10_readsCodes 253 = .ok (.if_icmp .ne 12, 3) := by decide +kernel
theorem dX10_readsCodes_256 : decode cX10_readsCodes 256 = .ok (.iload 4, 2) := by decide +kernel
theorem dX10_readsCodes_258 : decode cX10_readsCodes 258 = .ok (.lload 14, 2) := by decide +kernel
theorem dX10_readsCodes_260 : decode cX10_readsCodes 260 = .ok (.l2i, 1) := by decide +kernel
theorem dX10_readsCodes_261 : decode cX10_readsCodes 261 = .ok (.iadd, 1) := by decide +kernel
theorem dX10_readsCodes_262 : decode cX10_readsCodes 262 = .ok (.goto 6, 3) := by decide +kernel
theorem dX10_readsCodes_265 : decode cX10_readsCodes 265 = .ok (.lload 14, 2) := by decide +kernel
theorem dX10_readsCodes_267 : decode cX10_readsCodes 267 = .ok (.l2i, 1) := by decide +kernel
theorem dX10_readsCodes_268 : decode cX10_readsCodes 268 = .ok (.istore 4, 2) := by decide +kernel
theorem dX10_readsCodes_270 : decode cX10_readsCodes 270 = .ok (.aload_n 0, 1) := by decide +kernel
theorem dX10_readsCodes_271 : decode cX10_readsCodes 271 = .ok (.getfield 48, 3) := by decide +kernel
theorem dX10_readsCodes_274 : decode cX10_readsCodes 274 = .ok (.iload_n 3, 1) := by decide +kernel
theorem dX10_readsCodes_275 : decode cX10_readsCodes 275 = .ok (.iload 5, 2) := by decide +kernel
theorem dX10_readsCodes_277 : decode cX10_readsCodes 277 = .ok (.iadd, 1) := by decide +kernel
theorem dX10_readsCodes_278 : decode cX10_readsCodes 278 = .ok (.iload 4, 2) := by decide +kernel
theorem dX10_readsCodes_280 : decode cX10_readsCodes 280 = .ok (.iastore, 1) := by decide +kernel
theorem dX10_readsCodes_281 : decode cX10_readsCodes 281 = .ok (.iinc 5 1, 3) := by decide +kernel
theorem dX10_readsCodes_284 : decode cX10_readsCodes 284 = .ok (.goto (-278), 3) := by decide +kernel
theorem dX10_readsCodes_287 : decode cX10_readsCodes 287 = .ok (.return_, 1) := by decide +kernel
theorem dX10_reads_0 : decode cX10_reads 0 = .ok (.aload_n 0, 1) := by decide +kernel
theorem dX10_reads_1 : decode cX10_reads 1 = .ok (.iload_n 2, 1) := by decide +kernel
theorem dX10_reads_2 : decode cX10_reads 2 = .ok (.putfield 147, 3) := by decide +kernel
theorem dX10_reads_5 : decode cX10_reads 5 = .ok (.aload_n 0, 1) := by decide +kernel
theorem dX10_reads_6 : decode cX10_reads 6 = .ok (.aload_n 0, 1) := by decide +kernel
theorem dX10_reads_7 : decode cX10_reads 7 = .ok (.getfield 186, 3) := by decide +kernel
theorem dX10_reads_10 : decode cX10_reads 10 = .ok (.putfield 177, 3) := by decide +kernel
theorem dX10_reads_13 : decode cX10_reads 13 = .ok (.aload_n 0, 1) := by decide +kernel
theorem dX10_reads_14 : decode cX10_reads 14 = .ok (.iconst 0, 1) := by decide +kernel
theorem dX10_reads_15 : decode cX10_reads 15 = .ok (.putfield 171, 3) := by decide +kernel
theorem dX10_reads_18 : decode cX10_reads 18 = .ok (.iconst 0, 1) := by decide +kernel
theorem dX10_reads_19 : decode cX10_reads 19 = .ok (.istore_n 3, 1) := by decide +kernel
theorem dX10_reads_20 : decode cX10_reads 20 = .ok (.aload_n 0, 1) := by decide +kernel
theorem dX10_reads_21 : decode cX10_reads 21 = .ok (.iconst 0, 1) := by decide +kernel
theorem dX10_reads_22 : decode cX10_reads 22 = .ok (.iload_n 1, 1) := by decide +kernel
theorem dX10_reads_23 : decode cX10_reads 23 = .ok (.iload_n 2, 1) := by decide +kernel
theorem dX10_reads_24 : decode cX10_reads 24 = .ok (.iconst 0, 1) := by decide +kernel
theorem dX10_reads_25 : decode cX10_reads 25 = .ok (.invokevirtual 189, 3) := by decide +kernel
theorem dX10_reads_28 : decode cX10_reads 28 = .ok (.iload_n 3, 1) := by decide +kernel
theorem dX10_reads_29 : decode cX10_reads 29 = .ok (.ifCond .lt 212, 3) := by decide +kernel
theorem dX10_reads_32 : decode cX10_reads 32 = .ok (.aload_n 0, 1) := by decide +kernel
theorem dX10_reads_33 : decode cX10_reads 33 = .ok (.getfield 171, 3) := by decide +kernel
theorem dX10_reads_36 : decode cX10_reads 36 = .ok (.ifCond .ne 205, 3) := by decide +kernel
theorem dX10_reads_39 : decode cX10_reads 39 = .ok (.aload_n 0, 1) := by decide +kernel
theorem dX10_reads_40 : decode cX10_reads 40 = .ok (.getfield 66, 3) := by decide +kernel
theorem dX10_reads_43 : decode cX10_reads 43 = .ok (.iload_n 3, 1) := by decide +kernel
theorem dX10_reads_44 : decode cX10_reads 44 = .ok (.iaload, 1) := by decide +kernel
theorem dX10_reads_45 : decode cX10_reads 45 = .ok (.istore 4, 2) := by decide +kernel
theorem dX10_reads_47 : decode cX10_reads 47 = .ok (.aload_n 0, 1) := by decide +kernel
theorem dX10_reads_48 : decode cX10_reads 48 = .ok (.getfield 69, 3) := by decide +kernel
theorem dX10_reads_51 : decode cX10_reads 51 = .ok (.iload_n 3, 1) := by decide +kernel
theorem dX10_reads_52 : decode cX10_reads 52 = .ok (.iaload, 1) := by decide +kernel
theorem dX10_reads_53 : decode cX10_reads 53 = .ok (.istore 5, 2) := by decide +kernel
theorem dX10_reads_55 : decode cX10_reads 55 = .ok (.aload_n 0, 1) := by decide +kernel
theorem dX10_reads_56 : decode cX10_reads 56 = .ok (.getfield 72, 3) := by decide +kernel
theorem dX10_reads_59 : decode cX10_reads 59 = .ok (.iload_n 3, 1) := by decide +kernel
theorem dX10_reads_60 : decode cX10_reads 60 = .ok (.iaload, 1) := by decide +kernel
theorem dX10_reads_61 : decode cX10_reads 61 = .ok (.istore 6, 2) := by decide +kernel
theorem dX10_reads_63 : decode cX10_reads 63 = .ok (.aload_n 0, 1) := by decide +kernel
theorem dX10_reads_64 : decode cX10_reads 64 = .ok (.getfield 75, 3) := by decide +kernel
theorem dX10_reads_67 : decode cX10_reads 67 = .ok (.iload_n 3, 1) := by decide +kernel
theorem dX10_reads_68 : decode cX10_reads 68 = .ok (.iaload, 1) := by decide +kernel
theorem dX10_reads_69 : decode cX10_reads 69 = .ok (.istore 7, 2) := by decide +kernel
theorem dX10_reads_71 : decode cX10_reads 71 = .ok (.aload_n 0, 1) := by decide +kernel
theorem dX10_reads_72 : decode cX10_reads 72 = .ok (.getfield 75, 3) := by decide +kernel
theorem dX10_reads_75 : decode cX10_reads 75 = .ok (.iload_n 3, 1) := by decide +kernel
theorem dX10_reads_76 : decode cX10_reads 76 = .ok (.dup2, 1) := by decide +kernel
theorem dX10_reads_77 : decode cX10_reads 77 = .ok (.iaload, 1) := by decide +kernel
theorem dX10_reads_78 : decode cX10_reads 78 = .ok (.iconst 1, 1) := by decide +kernel
theorem dX10_reads_79 : decode cX10_reads 79 = .ok (.iadd, 1) := by decide +kernel
theorem dX10_reads_80 : decode cX10_reads 80 = .ok (.iastore, 1) := by decide +kernel
theorem dX10_reads_81 : decode cX10_reads 81 = .ok (.aload_n 0, 1) := by decide +kernel
theorem dX10_reads_82 : decode cX10_reads 82 = .ok (.getfield 7, 3) := by decide +kernel
theorem dX10_reads_85 : decode cX10_reads 85 = .ok (.iload 4, 2) := by decide +kernel
theorem dX10_reads_87 : decode cX10_reads 87 = .ok (.iaload, 1) := by decide +kernel
theorem dX10_reads_88 : decode cX10_reads 88 = .ok (.ifCond .ne 19, 3) := by decide +kernel
theorem dX10_reads_91 : decode cX10_reads 91 = .ok (.aload_n 0, 1) := by decide +kernel
theorem dX10_reads_92 : decode cX10_reads 92 = .ok (.iload 4, 2) := by decide +kernel
theorem dX10_reads_94 : decode cX10_reads 94 = .ok (.iload 5, 2) := by decide +kernel
theorem dX10_reads_96 : decode cX10_reads 96 = .ok (.iload 6, 2) := by decide +kernel
theorem dX10_reads_98 : decode cX10_reads 98 = .ok (.invokevirtual 193, 3) := by decide +kernel
theorem dX10_reads_101 : decode cX10_reads 101 = .ok (.iinc 3 (-1), 3) := by decide +kernel
theorem dX10_reads_104 : decode cX10_reads 104 = .ok (.goto 134, 3) := by decide +kernel
theorem dX10_reads_107 : decode cX10_reads 107 = .ok (.aload_n 0, 1) := by decide +kernel
theorem dX10_reads_108 : decode cX10_reads 108 = .ok (.getfield 7, 3) := by decide +kernel
theorem dX10_reads_111 : decode cX10_reads 111 = .ok (.iload 4, 2) := by decide +kernel
theorem dX10_reads_113 : decode cX10_reads 113 = .ok (.iaload, 1) := by decide +kernel
theorem dX10_reads_114 : decode cX10_reads 114 = .ok (.iconst 1, 1) := by decide +kernel
theorem dX10_reads_115 : decode cX10_reads 115 = .ok (.if_icmp .ne 102, 3) := by decide +kernel
theorem dX10_reads_118 : decode cX10_reads 118 = .ok (.aload_n 0, 1) := by decide +kernel
theorem dX10_reads_119 : decode cX10_reads 119 = .ok (.getfield 13, 3) := by decide +kernel
theorem dX10_reads_122 : decode cX10_reads 122 = .ok (.iload 4, 2) := by decide +kernel
theorem dX10_reads_124 : decode cX10_reads 124 = .ok (.iaload, 1) := by decide +kernel
theorem dX10_reads_125 : decode cX10_reads 125 = .ok (.iload 5, 2) := by decide +kernel
theorem dX10_reads_127 : decode cX10_reads 127 = .ok (.if_icmp .ge 13, 3) := by decide +kernel
theorem dX10_reads_130 : decode cX10_reads 130 = .ok (.aload_n 0, 1) := by decide +kernel
theorem dX10_reads_131 : decode cX10_reads 131 = .ok (.getfield 13, 3) := by decide +kernel
theorem dX10_reads_134 : decode cX10_reads 134 = .ok (.iload 4, 2) := by decide +kernel
theorem dX10_reads_136 : decode cX10_reads 136 = .ok (.iaload, 1) := by decide +kernel
theorem dX10_reads_137 : decode cX10_reads 137 = .ok (.goto 5, 3) := by decide +kernel
theorem dX10_reads_140 : decode cX10_reads 140 = .ok (.iload 5, 2) := by decide +kernel
theorem dX10_reads_142 : decode cX10_reads 142 = .ok (.istore 8, 2) := by decide +kernel
theorem dX10_reads_144 : decode cX10_reads 144 = .ok (.iload 7, 2) := by decide +kernel
theorem dX10_reads_146 : decode cX10_reads 146 = .ok (.ifCond .ne 24, 3) := by decide +kernel
theorem dX10_reads_149 : decode cX10_reads 149 = .ok (.aload_n 0, 1) := by decide +kernel
theorem dX10_reads_150 : decode cX10_reads 150 = .ok (.iload_n 3, 1) := by decide +kernel
theorem dX10_reads_151 : decode cX10_reads 151 = .ok (.iconst 1, 1) := by decide +kernel
theorem dX10_reads_152 : decode cX10_reads 152 = .ok (.iadd, 1) := by decide +kernel
theorem dX10_reads_153 : decode cX10_reads 153 = .ok (.aload_n 0, 1) := by decide +kernel
theorem dX10_reads_154 : decode cX10_reads 154 = .ok (.getfield 16, 3) := by decide +kernel
theorem dX10_reads_157 : decode cX10_reads 157 = .ok (.iload 4, 2) := by decide +kernel
theorem dX10_reads_159 : decode cX10_reads 159 = .ok (.iaload, 1) := by decide +kernel
theorem dX10_reads_160 : decode cX10_reads 160 = .ok (.iload 8, 2) := by decide +kernel
theorem dX10_reads_162 : decode cX10_reads 162 = .ok (.iload 6, 2) := by decide +kernel
theorem dX10_reads_164 : decode cX10_reads 164 = .ok (.invokevirtual 189, 3) := by decide +kernel
theorem dX10_reads_167 : decode cX10_reads 167 = .ok (.goto 33, 3) := by decide +kernel
theorem dX10_reads_170 : decode cX10_reads 170 = .ok (.iload 7, 2) := by decide +kernel
theorem dX10_reads_172 : decode cX10_reads 172 = .ok (.iconst 1, 1) := by decide +kernel
theorem dX10_reads_173 : decode cX10_reads 173 = .ok (.if_icmp .ne 27, 3) := by decide +kernel
theorem dX10_reads_176 : decode cX10_reads 176 = .ok (.aload_n 0, 1) := by decide +kernel
theorem dX10_reads_177 : decode cX10_reads 177 = .ok (.iload_n 3, 1) := by decide +kernel
theorem dX10_reads_178 : decode cX10_reads 178 = .ok (.iconst 1, 1) := by decide +kernel
theorem dX10_reads_179 : decode cX10_reads 179 = .ok (.iadd, 1) := by decide +kernel
theorem dX10_reads_180 : decode cX10_reads 180 = .ok (.aload_n 0, 1) := by decide +kernel
theorem dX10_reads_181 : decode cX10_reads 181 = .ok (.getfield 19, 3) := by decide +kernel
theorem dX10_reads_184 : decode cX10_reads 184 = .ok (.iload 4, 2) := by decide +kernel
theorem dX10_reads_186 : decode cX10_reads 186 = .ok (.iaload, 1) := by decide +kernel
theorem dX10_reads_187 : decode cX10_reads 187 = .ok (.iload 5, 2) := by decide +kernel
theorem dX10_reads_189 : decode cX10_reads 189 = .ok (.iload 8, 2) := by decide +kernel
theorem dX10_reads_191 : decode cX10_reads 191 = .ok (.isub, 1) := by decide +kernel
theorem dX10_reads_192 : decode cX10_reads 192 = .ok (.iload 6, 2) := by decide +kernel
theorem dX10_reads_194 : decode cX10_reads 194 = .ok (.iload 8, 2) := by decide +kernel
theorem dX10_reads_196 : decode cX10_reads 196 = .ok (.iadd, 1) := by decide +kernel
theorem dX10_reads_197 : decode cX10_reads 197 = .ok (.invokevirtual 189, 3) := by decide +kernel
theorem dX10_reads_200 : decode cX10_reads 200 = .ok (.iload_n 3, 1) := by decide +kernel
theorem dX10_reads_201 : decode cX10_reads 201 = .ok (.iload 7, 2) := by decide +kernel
theorem dX10_reads_203 : decode cX10_reads 203 = .ok (.iconst 2, 1) := by decide +kernel
theorem dX10_reads_204 : decode cX10_reads 204 = .ok (.if_icmp .ne 7, 3) := by decide +kernel
theorem dX10_reads_207 : decode cX10_reads 207 = .ok (.iconst (-1), 1) := by decide +kernel
theorem dX10_reads_208 : decode cX10_reads 208 = .ok (.goto 4, 3) := by decide +kernel
theorem dX10_reads_211 : decode cX10_reads 211 = .ok (.iconst 1, 1) := by decide +kernel
theorem dX10_reads_212 : decode cX10_reads 212 = .ok (.iadd, 1) := by decide +kernel
theorem dX10_reads_213 : decode cX10_reads 213 = .ok (.istore_n 3, 1) := by decide +kernel
theorem dX10_reads_214 : decode cX10_reads 214 = .ok (.goto 24, 3) := by decide +kernel
theorem dX10_reads_217 : decode cX10_reads 217 = .ok (.aload_n 0, 1) := by decide +kernel
theorem dX10_reads_218 : decode cX10_reads 218 = .ok (.iload_n 3, 1) := by decide +kernel
theorem dX10_reads_219 : decode cX10_reads 219 = .ok (.iload 7, 2) := by decide +kernel
theorem dX10_reads_221 : decode cX10_reads 221 = .ok (.invokevirtual 196, 3) := by decide +kernel
theorem dX10_reads_224 : decode cX10_reads 224 = .ok (.iload_n 3, 1) := by decide +kernel
theorem dX10_reads_225 : decode cX10_reads 225 = .ok (.iload 7, 2) := by decide +kernel
theorem dX10_reads_227 : decode cX10_reads 227 = .ok (.iconst 4, 1) := by decide +kernel
theorem dX10_reads_228 : decode cX10_reads 228 = .ok (.if_icmp .ne 7, 3) := by decide +kernel
theorem dX10_reads_231 : decode cX10_reads 231 = .ok (.iconst (-1), 1) := by decide +kernel
theorem dX10_reads_232 : decode cX10_reads 232 = .ok (.goto 4, 3) := by decide +kernel
theorem dX10_reads_235 : decode cX10_reads 235 = .ok (.iconst 1, 1) := by decide +kernel
theorem dX10_reads_236 : decode cX10_reads 236 = .ok (.iadd, 1) := by decide +kernel
theorem dX10_reads_237 : decode cX10_reads 237 = .ok (.istore_n 3, 1) := by decide +kernel
theorem dX10_reads_238 : decode cX10_reads 238 = .ok (.goto (-210), 3) := by decide +kernel
theorem dX10_reads_241 : decode cX10_reads 241 = .ok (.return_, 1) := by decide +kernel
theorem dX10_readsPopular_0 : decode cX10_readsPopular 0 = .ok (.aload_n 0, 1) := by decide +kernel
theorem dX10_readsPopular_1 : decode cX10_readsPopular 1 = .ok (.getfield 66, 3) := by decide +kernel
theorem dX10_readsPopular_4 : decode cX10_readsPopular 4 = .ok (.iload_n 1, 1) := by decide +kernel
theorem dX10_readsPopular_5 : decode cX10_readsPopular 5 = .ok (.iaload, 1) := by decide +kernel
theorem dX10_readsPopular_6 : decode cX10_readsPopular 6 = .ok (.istore_n 3, 1) := by decide +kernel
theorem dX10_readsPopular_7 : decode cX10_readsPopular 7 = .ok (.aload_n 0, 1) := by decide +kernel
theorem dX10_readsPopular_8 : decode cX10_readsPopular 8 = .ok (.getfield 69, 3) := by decide +kernel
theorem dX10_readsPopular_11 : decode cX10_readsPopular 11 = .ok (.iload_n 1, 1) := by decide +kernel
theorem dX10_readsPopular_12 : decode cX10_readsPopular 12 = .ok (.iaload, 1) := by decide +kernel
theorem dX10_readsPopular_13 : decode cX10_readsPopular 13 = .ok (.istore 4, 2) := by decide +kernel
theorem dX10_readsPopular_15 : decode cX10_readsPopular 15 = .ok (.iload_n 2, 1) := by decide +kernel
theorem dX10_readsPopular_16 : decode cX10_readsPopular 16 = .ok (.ifCond .le 17, 3) := by decide +kernel
theorem dX10_readsPopular_19 : decode cX10_readsPopular 19 = .ok (.aload_n 0, 1) := by decide +kernel
theorem dX10_readsPopular_20 : decode cX10_readsPopular 20 = .ok (.getfield 48, 3) := by decide +kernel
theorem dX10_readsPopular_23 : decode cX10_readsPopular 23 = .ok (.aload_n 0, 1) := by decide +kernel
theorem dX10_readsPopular_24 : decode cX10_readsPopular 24 = .ok (.getfield 78, 3) := by decide +kernel
theorem dX10_readsPopular_27 : decode cX10_readsPopular 27 = .ok (.iload_n 1, 1) := by decide +kernel
theorem dX10_readsPopular_28 : decode cX10_readsPopular 28 = .ok (.iaload, 1) := by decide +kernel
theorem dX10_readsPopular_29 : decode cX10_readsPopular 29 = .ok (.iaload, 1) := by decide +kernel
theorem dX10_readsPopular_30 : decode cX10_readsPopular 30 = .ok (.goto 4, 3) := by decide +kernel
theorem dX10_readsPopular_33 : decode cX10_readsPopular 33 = .ok (.iconst 0, 1) := by decide +kernel
theorem dX10_readsPopular_34 : decode cX10_readsPopular 34 = .ok (.istore 5, 2) := by decide +kernel
theorem dX10_readsPopular_36 : decode cX10_readsPopular 36 = .ok (.iload_n 2, 1) := by decide +kernel
theorem dX10_readsPopular_37 : decode cX10_readsPopular 37 = .ok (.tableswitch 295 0 3 #[31, 75, 139, 185], 31) := by decide +kernel
theorem dX10_readsPopular_68 : decode cX10_readsPopular 68 = .ok (.aload_n 0, 1) := by decide +kernel
theorem dX10_readsPopular_69 : decode cX10_readsPopular 69 = .ok (.getfield 78, 3) := by decide +kernel
theorem dX10_readsPopular_72 : decode cX10_readsPopular 72 = .ok (.iload_n 1, 1) := by decide +kernel
theorem dX10_readsPopular_73 : decode cX10_readsPopular 73 = .ok (.aload_n 0, 1) := by decide +kernel
theorem dX10_readsPopular_74 : decode cX10_readsPopular 74 = .ok (.iconst 1, 1) := by decide +kernel
theorem dX10_readsPopular_75 : decode cX10_readsPopular 75 = .ok (.invokevirtual 199, 3) := by decide +kernel
theorem dX10_readsPopular_78 : decode cX10_readsPopular 78 = .ok (.iastore, 1) := by decide +kernel
theorem dX10_readsPopular_79 : decode cX10_readsPopular 79 = .ok (.aload_n 0, 1) := by decide +kernel
theorem dX10_readsPopular_80 : decode cX10_readsPopular 80 = .ok (.getfield 90, 3) := by decide +kernel
theorem dX10_readsPopular_83 : decode cX10_readsPopular 83 = .ok (.iload_n 1, 1) := by decide +kernel
theorem dX10_readsPopular_84 : decode cX10_readsPopular 84 = .ok (.aload_n 0, 1) := by decide +kernel
theorem dX10_readsPopular_85 : decode cX10_readsPopular 85 = .ok (.getfield 177, 3) := by decide +kernel
theorem dX10_readsPopular_88 : decode cX10_readsPopular 88 = .ok (.iastore, 1) := by decide +kernel
theorem dX10_readsPopular_89 : decode cX10_readsPopular 89 = .ok (.aload_n 0, 1) := by decide +kernel
theorem dX10_readsPopular_90 : decode cX10_readsPopular 90 = .ok (.iload_n 1, 1) := by decide +kernel
theorem dX10_readsPopular_91 : decode cX10_readsPopular 91 = .ok (.iconst 1, 1) := by decide +kernel
theorem dX10_readsPopular_92 : decode cX10_readsPopular 92 = .ok (.iadd, 1) := by decide +kernel
theorem dX10_readsPopular_93 : decode cX10_readsPopular 93 = .ok (.aload_n 0, 1) := by decide +kernel
theorem dX10_readsPopular_94 : decode cX10_readsPopular 94 = .ok (.getfield 16, 3) := by decide +kernel
theorem dX10_readsPopular_97 : decode cX10_readsPopular 97 = .ok (.iload_n 3, 1) := by decide +kernel
theorem dX10_readsPopular_98 : decode cX10_readsPopular 98 = .ok (.iaload, 1) := by decide +kernel
theorem dX10_readsPopular_99 : decode cX10_readsPopular 99 = .ok (.iconst 1, 1) := by decide +kernel
theorem dX10_readsPopular_100 : decode cX10_readsPopular 100 = .ok (.aload_n 0, 1) := by decide +kernel
theorem dX10_readsPopular_101 : decode cX10_readsPopular 101 = .ok (.getfield 78, 3) := by decide +kernel
theorem dX10_readsPopular_104 : decode cX10_readsPopular 104 = .ok (.iload_n 1, 1) := by decide +kernel
theorem dX10_readsPopular_105 : decode cX10_readsPopular 105 = .ok (.iaload, 1) := by decide +kernel
theorem dX10_readsPopular_106 : decode cX10_readsPopular 106 = .ok (.invokevirtual 189, 3) := by decide +kernel
theorem dX10_readsPopular_109 : decode cX10_readsPopular 109 = .ok (.goto 326, 3) := by decide +kernel
theorem dX10_readsPopular_112 : decode cX10_readsPopular 112 = .ok (.iload 5, 2) := by decide +kernel
theorem dX10_readsPopular_114 : decode cX10_readsPopular 114 = .ok (.ifCond .lt 14, 3) := by decide +kernel
theorem dX10_readsPopular_117 : decode cX10_readsPopular 117 = .ok (.iload 5, 2) := by decide +kernel
theorem dX10_readsPopular_119 : decode cX10_readsPopular 119 = .ok (.aload_n 0, 1) := by decide +kernel
theorem dX10_readsPopular_120 : decode cX10_readsPopular 120 = .ok (.getfield 13, 3) := by decide +kernel
theorem dX10_readsPopular_123 : decode cX10_readsPopular 123 = .ok (.iload_n 3, 1) := by decide +kernel
theorem dX10_readsPopular_124 : decode cX10_readsPopular 124 = .ok (.iaload, 1) := by decide +kernel
theorem dX10_readsPopular_125 : decode cX10_readsPopular 125 = .ok (.if_icmp .le 15, 3) := by decide +kernel
theorem dX10_readsPopular_128 : decode cX10_readsPopular 128 = .ok (.aload_n 0, 1) := by decide +kernel
theorem dX10_readsPopular_129 : decode cX10_readsPopular 129 = .ok (.iconst 3, 1) := by decide +kernel
theorem dX10_readsPopular_130 : decode cX10_readsPopular 130 = .ok (.aload_n 0, 1) := by decide +kernel
theorem dX10_readsPopular_131 : decode cX10_readsPopular 131 = .ok (.getfield 90, 3) := by decide +kernel
theorem dX10_readsPopular_134 : decode cX10_readsPopular 134 = .ok (.iload_n 1, 1) := by decide +kernel
theorem dX10_readsPopular_135 : decode cX10_readsPopular 135 = .ok (.iaload, 1) := by decide +kernel
theorem dX10_readsPopular_136 : decode cX10_readsPopular 136 = .ok (.invokevirtual 180, 3) := by decide +kernel
theorem dX10_readsPopular_139 : decode cX10_readsPopular 139 = .ok (.return_, 1) := by decide +kernel
theorem dX10_readsPopular_140 : decode cX10_readsPopular 140 = .ok (.aload_n 0, 1) := by decide +kernel
theorem dX10_readsPopular_141 : decode cX10_readsPopular 141 = .ok (.getfield 81, 3) := by decide +kernel
theorem dX10_readsPopular_144 : decode cX10_readsPopular 144 = .ok (.iload_n 1, 1) := by decide +kernel
theorem dX10_readsPopular_145 : decode cX10_readsPopular 145 = .ok (.aload_n 0, 1) := by decide +kernel
theorem dX10_readsPopular_146 : decode cX10_readsPopular 146 = .ok (.iload 5, 2) := by decide +kernel
theorem dX10_readsPopular_148 : decode cX10_readsPopular 148 = .ok (.invokevirtual 199, 3) := by decide +kernel
theorem dX10_readsPopular_151 : decode cX10_readsPopular 151 = .ok (.iastore, 1) := by decide +kernel
theorem dX10_readsPopular_152 : decode cX10_readsPopular 152 = .ok (.aload_n 0, 1) := by decide +kernel
theorem dX10_readsPopular_153 : decode cX10_readsPopular 153 = .ok (.iload_n 1, 1) := by decide +kernel
theorem dX10_readsPopular_154 : decode cX10_readsPopular 154 = .ok (.iconst 1, 1) := by decide +kernel
theorem dX10_readsPopular_155 : decode cX10_readsPopular 155 = .ok (.iadd, 1) := by decide +kernel
theorem dX10_readsPopular_156 : decode cX10_readsPopular 156 = .ok (.aload_n 0, 1) := by decide +kernel
theorem dX10_readsPopular_157 : decode cX10_readsPopular 157 = .ok (.getfield 16, 3) := by decide +kernel
theorem dX10_readsPopular_160 : decode cX10_readsPopular 160 = .ok (.iload_n 3, 1) := by decide +kernel
theorem dX10_readsPopular_161 : decode cX10_readsPopular 161 = .ok (.iaload, 1) := by decide +kernel
theorem dX10_readsPopular_162 : decode cX10_readsPopular 162 = .ok (.iload 5, 2) := by decide +kernel
theorem dX10_readsPopular_164 : decode cX10_readsPopular 164 = .ok (.aload_n 0, 1) := by decide +kernel
theorem dX10_readsPopular_165 : decode cX10_readsPopular 165 = .ok (.getfield 81, 3) := by decide +kernel
theorem dX10_readsPopular_168 : decode cX10_readsPopular 168 = .ok (.iload_n 1, 1) := by decide +kernel
theorem dX10_readsPopular_169 : decode cX10_readsPopular 169 = .ok (.iaload, 1) := by decide +kernel
theorem dX10_readsPopular_170 : decode cX10_readsPopular 170 = .ok (.invokevirtual 189, 3) := by decide +kernel
theorem dX10_readsPopular_173 : decode cX10_readsPopular 173 = .ok (.goto 262, 3) := by decide +kernel
theorem dX10_readsPopular_176 : decode cX10_readsPopular 176 = .ok (.aload_n 0, 1) := by decide +kernel
theorem dX10_readsPopular_177 : decode cX10_readsPopular 177 = .ok (.getfield 84, 3) := by decide +kernel
theorem dX10_readsPopular_180 : decode cX10_readsPopular 180 = .ok (.iload_n 1, 1) := by decide +kernel
theorem dX10_readsPopular_181 : decode cX10_readsPopular 181 = .ok (.aload_n 0, 1) := by decide +kernel
theorem dX10_readsPopular_182 : decode cX10_readsPopular 182 = .ok (.iload 4, 2) := by decide +kernel
theorem dX10_readsPopular_184 : decode cX10_readsPopular 184 = .ok (.invokevirtual 199, 3) := by decide +kernel
theorem dX10_readsPopular_187 : decode cX10_readsPopular 187 = .ok (.iastore, 1) := by decide +kernel
theorem dX10_readsPopular_188 : decode cX10_readsPopular 188 = .ok (.aload_n 0, 1) := by decide +kernel
theorem dX10_readsPopular_189 : decode cX10_readsPopular 189 = .ok (.getfield 90, 3) := by decide +kernel
theorem dX10_readsPopular_192 : decode cX10_readsPopular 192 = .ok (.iload_n 1, 1) := by decide +kernel
theorem dX10_readsPopular_193 : decode cX10_readsPopular 193 = .ok (.aload_n 0, 1) := by decide +kernel
theorem dX10_readsPopular_194 : decode cX10_readsPopular 194 = .ok (.getfield 177, 3) := by decide +kernel
theorem dX10_readsPopular_197 : decode cX10_readsPopular 197 = .ok (.iastore, 1) := by decide +kernel
theorem dX10_readsPopular_198 : decode cX10_readsPopular 198 = .ok (.aload_n 0, 1) := by decide +kernel
theorem dX10_readsPopular_199 : decode cX10_readsPopular 199 = .ok (.iload_n 1, 1) := by decide +kernel
theorem dX10_readsPopular_200 : decode cX10_readsPopular 200 = .ok (.iconst 1, 1) := by decide +kernel
theorem dX10_readsPopular_201 : decode cX10_readsPopular 201 = .ok (.iadd, 1) := by decide +kernel
theorem dX10_readsPopular_202 : decode cX10_readsPopular 202 = .ok (.aload_n 0, 1) := by decide +kernel
theorem dX10_readsPopular_203 : decode cX10_readsPopular 203 = .ok (.getfield 19, 3) := by decide +kernel
theorem dX10_readsPopular_206 : decode cX10_readsPopular 206 = .ok (.iload_n 3, 1) := by decide +kernel
theorem dX10_readsPopular_207 : decode cX10_readsPopular 207 = .ok (.iaload, 1) := by decide +kernel
theorem dX10_readsPopular_208 : decode cX10_readsPopular 208 = .ok (.iload 4, 2) := by decide +kernel
theorem dX10_readsPopular_210 : decode cX10_readsPopular 210 = .ok (.aload_n 0, 1) := by decide +kernel
theorem dX10_readsPopular_211 : decode cX10_readsPopular 211 = .ok (.getfield 84, 3) := by decide +kernel
theorem dX10_readsPopular_214 : decode cX10_readsPopular 214 = .ok (.iload_n 1, 1) := by decide +kernel
theorem dX10_readsPopular_215 : decode cX10_readsPopular 215 = .ok (.iaload, 1) := by decide +kernel
theorem dX10_readsPopular_216 : decode cX10_readsPopular 216 = .ok (.invokevirtual 189, 3) := by decide +kernel
theorem dX10_readsPopular_219 : decode cX10_readsPopular 219 = .ok (.goto 216, 3) := by decide +kernel
theorem dX10_readsPopular_222 : decode cX10_readsPopular 222 = .ok (.iconst 0, 1) := by decide +kernel
theorem dX10_readsPopular_223 : decode cX10_readsPopular 223 = .ok (.istore 6, 2) := by decide +kernel
theorem dX10_readsPopular_225 : decode cX10_readsPopular 225 = .ok (.iconst 0, 1) := by decide +kernel
theorem dX10_readsPopular_226 : decode cX10_readsPopular 226 = .ok (.istore 7, 2) := by decide +kernel
theorem dX10_readsPopular_228 : decode cX10_readsPopular 228 = .ok (.iload 7, 2) := by decide +kernel
theorem dX10_readsPopular_230 : decode cX10_readsPopular 230 = .ok (.iload 4, 2) := by decide +kernel
theorem dX10_readsPopular_232 : decode cX10_readsPopular 232 = .ok (.if_icmp .ge 64, 3) := by decide +kernel
theorem dX10_readsPopular_235 : decode cX10_readsPopular 235 = .ok (.aload_n 0, 1) := by decide +kernel
theorem dX10_readsPopular_236 : decode cX10_readsPopular 236 = .ok (.getfield 48, 3) := by decide +kernel
theorem dX10_readsPopular_239 : decode cX10_readsPopular 239 = .ok (.aload_n 0, 1) := by decide +kernel
theorem dX10_readsPopular_240 : decode cX10_readsPopular 240 = .ok (.getfield 84, 3) := by decide +kernel
theorem dX10_readsPopular_243 : decode cX10_readsPopular 243 = .ok (.iload_n 1, 1) := by decide +kernel
theorem dX10_readsPopular_244 : decode cX10_readsPopular 244 = .ok (.iaload, 1) := by decide +kernel
theorem dX10_readsPopular_245 : decode cX10_readsPopular 245 = .ok (.iload 7, 2) := by decide +kernel
theorem dX10_readsPopular_247 : decode cX10_readsPopular 247 = .ok (.iadd, 1) := by decide +kernel
theorem dX10_readsPopular_248 : decode cX10_readsPopular 248 = .ok (.iaload, 1) := by decide +kernel
theorem dX10_readsPopular_249 : decode cX10_readsPopular 249 = .ok (.istore 8, 2) := by decide +kernel
theorem dX10_readsPopular_251 : decode cX10_readsPopular 251 = .ok (.iload 8, 2) := by decide +kernel
theorem dX10_readsPopular_253 : decode cX10_readsPopular 253 = .ok (.ifCond .lt 10, 3) := by decide +kernel
theorem dX10_readsPopular_256 : decode cX10_readsPopular 256 = .ok (.iload 8, 2) := by decide +kernel
theorem dX10_readsPopular_258 : decode cX10_readsPopular 258 = .ok (.iload 5, 2) := by decide +kernel
theorem dX10_readsPopular_260 : decode cX10_readsPopular 260 = .ok (.if_icmp .le 15, 3) := by decide +kernel
theorem dX10_readsPopular_263 : decode cX10_readsPopular 263 = .ok (.aload_n 0, 1) := by decide +kernel
theorem dX10_readsPopular_264 : decode cX10_readsPopular 264 = .ok (.iconst 3, 1) := by decide +kernel
theorem dX10_readsPopular_265 : decode cX10_readsPopular 265 = .ok (.aload_n 0, 1) := by decide +kernel
theorem dX10_readsPopular_266 : decode cX10_readsPopular 266 = .ok (.getfield 90, 3) := by decide +kernel
theorem dX10_readsPopular_269 : decode cX10_readsPopular 269 = .ok (.iload_n 1, 1) := by decide +kernel
theorem dX10_readsPopular_270 : decode cX10_readsPopular 270 = .ok (.iaload, 1) := by decide +kernel
theorem dX10_readsPopular_271 : decode cX10_readsPopular 271 = .ok (.invokevirtual 180, 3) := by decide +kernel
theorem dX10_readsPopular_274 : decode cX10_readsPopular 274 = .ok (.return_, 1) := by decide +kernel
theorem dX10_readsPopular_275 : decode cX10_readsPopular 275 = .ok (.iload 6, 2) := by decide +kernel
theorem dX10_readsPopular_277 : decode cX10_readsPopular 277 = .ok (.iload 8, 2) := by decide +kernel
theorem dX10_readsPopular_279 : decode cX10_readsPopular 279 = .ok (.ifCond .ne 7, 3) := by decide +kernel
theorem dX10_readsPopular_282 : decode cX10_readsPopular 282 = .ok (.iconst 1, 1) := by decide +kernel
theorem dX10_readsPopular_283 : decode cX10_readsPopular 283 = .ok (.goto 4, 3) := by decide +kernel
theorem dX10_readsPopular_286 : decode cX10_readsPopular 286 = .ok (.iconst 0, 1) := by decide +kernel
theorem dX10_readsPopular_287 : decode cX10_readsPopular 287 = .ok (.iadd, 1) := by decide +kernel
theorem dX10_readsPopular_288 : decode cX10_readsPopular 288 = .ok (.istore 6, 2) := by decide +kernel
theorem dX10_readsPopular_290 : decode cX10_readsPopular 290 = .ok (.iinc 7 1, 3) := by decide +kernel
theorem dX10_readsPopular_293 : decode cX10_readsPopular 293 = .ok (.goto (-65), 3) := by decide +kernel
theorem dX10_readsPopular_296 : decode cX10_readsPopular 296 = .ok (.aload_n 0, 1) := by decide +kernel
theorem dX10_readsPopular_297 : decode cX10_readsPopular 297 = .ok (.getfield 87, 3) := by decide +kernel
theorem dX10_readsPopular_300 : decode cX10_readsPopular 300 = .ok (.iload_n 1, 1) := by decide +kernel
theorem dX10_readsPopular_301 : decode cX10_readsPopular 301 = .ok (.aload_n 0, 1) := by decide +kernel
theorem dX10_readsPopular_302 : decode cX10_readsPopular 302 = .ok (.iload 6, 2) := by decide +kernel
theorem dX10_readsPopular_304 : decode cX10_readsPopular 304 = .ok (.invokevirtual 199, 3) := by decide +kernel
theorem dX10_readsPopular_307 : decode cX10_readsPopular 307 = .ok (.iastore, 1) := by decide +kernel
theorem dX10_readsPopular_308 : decode cX10_readsPopular 308 = .ok (.aload_n 0, 1) := by decide +kernel
theorem dX10_readsPopular_309 : decode cX10_readsPopular 309 = .ok (.iload_n 1, 1) := by decide +kernel
theorem dX10_readsPopular_310 : decode cX10_readsPopular 310 = .ok (.iconst 1, 1) := by decide +kernel
theorem dX10_readsPopular_311 : decode cX10_readsPopular 311 = .ok (.iadd, 1) := by decide +kernel
theorem dX10_readsPopular_312 : decode cX10_readsPopular 312 = .ok (.aload_n 0, 1) := by decide +kernel
theorem dX10_readsPopular_313 : decode cX10_readsPopular 313 = .ok (.getfield 22, 3) := by decide +kernel
theorem dX10_readsPopular_316 : decode cX10_readsPopular 316 = .ok (.iload_n 3, 1) := by decide +kernel
theorem dX10_readsPopular_317 : decode cX10_readsPopular 317 = .ok (.iaload, 1) := by decide +kernel
theorem dX10_readsPopular_318 : decode cX10_readsPopular 318 = .ok (.iload 6, 2) := by decide +kernel
theorem dX10_readsPopular_320 : decode cX10_readsPopular 320 = .ok (.aload_n 0, 1) := by decide +kernel
theorem dX10_readsPopular_321 : decode cX10_readsPopular 321 = .ok (.getfield 87, 3) := by decide +kernel
theorem dX10_readsPopular_324 : decode cX10_readsPopular 324 = .ok (.iload_n 1, 1) := by decide +kernel
theorem dX10_readsPopular_325 : decode cX10_readsPopular 325 = .ok (.iaload, 1) := by decide +kernel
theorem dX10_readsPopular_326 : decode cX10_readsPopular 326 = .ok (.invokevirtual 189, 3) := by decide +kernel
theorem dX10_readsPopular_329 : decode cX10_readsPopular 329 = .ok (.goto 106, 3) := by decide +kernel
theorem dX10_readsPopular_332 : decode cX10_readsPopular 332 = .ok (.aload_n 0, 1) := by decide +kernel
theorem dX10_readsPopular_333 : decode cX10_readsPopular 333 = .ok (.getfield 87, 3) := by decide +kernel
theorem dX10_readsPopular_336 : decode cX10_readsPopular 336 = .ok (.iload_n 1, 1) := by decide +kernel
theorem dX10_readsPopular_337 : decode cX10_readsPopular 337 = .ok (.iaload, 1) := by decide +kernel
theorem dX10_readsPopular_338 : decode cX10_readsPopular 338 = .ok (.istore 6, 2) := by decide +kernel
theorem dX10_readsPopular_340 : decode cX10_readsPopular 340 = .ok (.iconst 0, 1) := by decide +kernel
theorem dX10_readsPopular_341 : decode cX10_readsPopular 341 = .ok (.istore 7, 2) := by decide +kernel
theorem dX10_readsPopular_343 : decode cX10_readsPopular 343 = .ok (.iload 7, 2) := by decide +kernel
theorem dX10_readsPopular_345 : decode cX10_readsPopular 345 = .ok (.iload 4, 2) := by decide +kernel
theorem dX10_readsPopular_347 : decode cX10_readsPopular 347 = .ok (.if_icmp .ge 85, 3) := by decide +kernel
theorem dX10_readsPopular_350 : decode cX10_readsPopular 350 = .ok (.aload_n 0, 1) := by decide +kernel
theorem dX10_readsPopular_351 : decode cX10_readsPopular 351 = .ok (.getfield 48, 3) := by decide +kernel
theorem dX10_readsPopular_354 : decode cX10_readsPopular 354 = .ok (.aload_n 0, 1) := by decide +kernel
theorem dX10_readsPopular_355 : decode cX10_readsPopular 355 = .ok (.getfield 84, 3) := by decide +kernel
theorem dX10_readsPopular_358 : decode cX10_readsPopular 358 = .ok (.iload_n 1, 1) := by decide +kernel
theorem dX10_readsPopular_359 : decode cX10_readsPopular 359 = .ok (.iaload, 1) := by decide +kernel
theorem dX10_readsPopular_360 : decode cX10_readsPopular 360 = .ok (.iload 7, 2) := by decide +kernel
theorem dX10_readsPopular_362 : decode cX10_readsPopular 362 = .ok (.iadd, 1) := by decide +kernel
theorem dX10_readsPopular_363 : decode cX10_readsPopular 363 = .ok (.iaload, 1) := by decide +kernel
theorem dX10_readsPopular_364 : decode cX10_readsPopular 364 = .ok (.istore 8, 2) := by decide +kernel
theorem dX10_readsPopular_366 : decode cX10_readsPopular 366 = .ok (.aload_n 0, 1) := by decide +kernel
theorem dX10_readsPopular_367 : decode cX10_readsPopular 367 = .ok (.getfield 48, 3) := by decide +kernel
theorem dX10_readsPopular_370 : decode cX10_readsPopular 370 = .ok (.aload_n 0, 1) := by decide +kernel
theorem dX10_readsPopular_371 : decode cX10_readsPopular 371 = .ok (.getfield 72, 3) := by decide +kernel
theorem dX10_readsPopular_374 : decode cX10_readsPopular 374 = .ok (.iload_n 1, 1) := by decide +kernel
theorem dX10_readsPopular_375 : decode cX10_readsPopular 375 = .ok (.iaload, 1) := by decide +kernel
theorem dX10_readsPopular_376 : decode cX10_readsPopular 376 = .ok (.iload 7, 2) := by decide +kernel
theorem dX10_readsPopular_378 : decode cX10_readsPopular 378 = .ok (.iadd, 1) := by decide +kernel
theorem dX10_readsPopular_379 : decode cX10_readsPopular 379 = .ok (.iload 8, 2) := by decide +kernel
theorem dX10_readsPopular_381 : decode cX10_readsPopular 381 = .ok (.ifCond .ne 13, 3) := by decide +kernel
theorem dX10_readsPopular_384 : decode cX10_readsPopular 384 = .ok (.aload_n 0, 1) := by decide +kernel
theorem dX10_readsPopular_385 : decode cX10_readsPopular 385 = .ok (.getfield 48, 3) := by decide +kernel
theorem dX10_readsPopular_388 : decode cX10_readsPopular 388 = .ok (.iload 6, 2) := by decide +kernel
theorem dX10_readsPopular_390 : decode cX10_readsPopular 390 = .ok (.iaload, 1) := by decide +kernel
theorem dX10_readsPopular_391 : decode cX10_readsPopular 391 = .ok (.goto 19, 3) := by decide +kernel
theorem dX10_readsPopular_394 : decode cX10_readsPopular 394 = .ok (.aload_n 0, 1) := by decide +kernel
theorem dX10_readsPopular_395 : decode cX10_readsPopular 395 = .ok (.getfield 48, 3) := by decide +kernel
theorem dX10_readsPopular_398 : decode cX10_readsPopular 398 = .ok (.aload_n 0, 1) := by decide +kernel
theorem dX10_readsPopular_399 : decode cX10_readsPopular 399 = .ok (.getfield 81, 3) := by decide +kernel
theorem dX10_readsPopular_402 : decode cX10_readsPopular 402 = .ok (.iload_n 1, 1) := by decide +kernel
theorem dX10_readsPopular_403 : decode cX10_readsPopular 403 = .ok (.iaload, 1) := by decide +kernel
theorem dX10_readsPopular_404 : decode cX10_readsPopular 404 = .ok (.iload 8, 2) := by decide +kernel
theorem dX10_readsPopular_406 : decode cX10_readsPopular 406 = .ok (.iadd, 1) := by decide +kernel
theorem dX10_readsPopular_407 : decode cX10_readsPopular 407 = .ok (.iconst 1, 1) := by decide +kernel
theorem dX10_readsPopular_408 : decode cX10_readsPopular 408 = .ok (.isub, 1) := by decide +kernel
theorem dX10_readsPopular_409 : decode cX10_readsPopular 409 = .ok (.iaload, 1) := by decide +kernel
theorem dX10_readsPopular_410 : decode cX10_readsPopular 410 = .ok (.iastore, 1) := by decide +kernel
theorem dX10_readsPopular_411 : decode cX10_readsPopular 411 = .ok (.iload 6, 2) := by decide +kernel
theorem dX10_readsPopular_413 : decode cX10_readsPopular 413 = .ok (.iload 8, 2) := by decide +kernel
theorem dX10_readsPopular_415 : decode cX10_readsPopular 415 = .ok (.ifCond .ne 7, 3) := by decide +kernel
theorem dX10_readsPopular_418 : decode cX10_readsPopular 418 = .ok (.iconst 1, 1) := by decide +kernel
theorem dX10_readsPopular_419 : decode cX10_readsPopular 419 = .ok (.goto 4, 3) := by decide +kernel
theorem dX10_readsPopular_422 : decode cX10_readsPopular 422 = .ok (.iconst 0, 1) := by decide +kernel
theorem dX10_readsPopular_423 : decode cX10_readsPopular 423 = .ok (.iadd, 1) := by decide +kernel
theorem dX10_readsPopular_424 : decode cX10_readsPopular 424 = .ok (.istore 6, 2) := by decide +kernel
theorem dX10_readsPopular_426 : decode cX10_readsPopular 426 = .ok (.iinc 7 1, 3) := by decide +kernel
theorem dX10_readsPopular_429 : decode cX10_readsPopular 429 = .ok (.goto (-86), 3) := by decide +kernel
theorem dX10_readsPopular_432 : decode cX10_readsPopular 432 = .ok (.goto 3, 3) := by decide +kernel
theorem dX10_readsPopular_435 : decode cX10_readsPopular 435 = .ok (.return_, 1) := by decide +kernel
theorem dX10_unpack_0 : decode cX10_unpack 0 = .ok (.aload_n 0, 1) := by decide +kernel
theorem dX10_unpack_1 : decode cX10_unpack 1 = .ok (.aload_n 0, 1) := by decide +kernel
theorem dX10_unpack_2 : decode cX10_unpack 2 = .ok (.iload_n 1, 1) := by decide +kernel
theorem dX10_unpack_3 : decode cX10_unpack 3 = .ok (.invokevirtual 113, 3) := by decide +kernel
theorem dX10_unpack_6 : decode cX10_unpack 6 = .ok (.ifCond .eq 14, 3) := by decide +kernel
theorem dX10_unpack_9 : decode cX10_unpack 9 = .ok (.iload_n 2, 1) := by decide +kernel
theorem dX10_unpack_10 : decode cX10_unpack 10 = .ok (.ifCond .lt 10, 3) := by decide +kernel
theorem dX10_unpack_13 : decode cX10_unpack 13 = .ok (.iload_n 2, 1) := by decide +kernel
theorem dX10_unpack_14 : decode cX10_unpack 14 = .ok (.sipush 400, 3) := by decide +kernel
theorem dX10_unpack_17 : decode cX10_unpack 17 = .ok (.if_icmp .le 7, 3) := by decide +kernel
theorem dX10_unpack_20 : decode cX10_unpack 20 = .ok (.iconst 1, 1) := by decide +kernel
theorem dX10_unpack_21 : decode cX10_unpack 21 = .ok (.goto 4, 3) := by decide +kernel
theorem dX10_unpack_24 : decode cX10_unpack 24 = .ok (.iconst 0, 1) := by decide +kernel
theorem dX10_unpack_25 : decode cX10_unpack 25 = .ok (.invokevirtual 105, 3) := by decide +kernel
theorem dX10_unpack_28 : decode cX10_unpack 28 = .ok (.ifCond .eq 5, 3) := by decide +kernel
theorem dX10_unpack_31 : decode cX10_unpack 31 = .ok (.iconst 0, 1) := by decide +kernel
theorem dX10_unpack_32 : decode cX10_unpack 32 = .ok (.ireturn, 1) := by decide +kernel
theorem dX10_unpack_33 : decode cX10_unpack 33 = .ok (.aload_n 0, 1) := by decide +kernel
theorem dX10_unpack_34 : decode cX10_unpack 34 = .ok (.iload_n 1, 1) := by decide +kernel
theorem dX10_unpack_35 : decode cX10_unpack 35 = .ok (.iload_n 2, 1) := by decide +kernel
theorem dX10_unpack_36 : decode cX10_unpack 36 = .ok (.invokevirtual 203, 3) := by decide +kernel
theorem dX10_unpack_39 : decode cX10_unpack 39 = .ok (.aload_n 0, 1) := by decide +kernel
theorem dX10_unpack_40 : decode cX10_unpack 40 = .ok (.aload_n 0, 1) := by decide +kernel
theorem dX10_unpack_41 : decode cX10_unpack 41 = .ok (.getfield 171, 3) := by decide +kernel
theorem dX10_unpack_44 : decode cX10_unpack 44 = .ok (.ifCond .ne 7, 3) := by decide +kernel
theorem dX10_unpack_47 : decode cX10_unpack 47 = .ok (.iconst (-1), 1) := by decide +kernel
theorem dX10_unpack_48 : decode cX10_unpack 48 = .ok (.goto 7, 3) := by decide +kernel
theorem dX10_unpack_51 : decode cX10_unpack 51 = .ok (.aload_n 0, 1) := by decide +kernel
theorem dX10_unpack_52 : decode cX10_unpack 52 = .ok (.getfield 174, 3) := by decide +kernel
theorem dX10_unpack_55 : decode cX10_unpack 55 = .ok (.putfield 34, 3) := by decide +kernel
theorem dX10_unpack_58 : decode cX10_unpack 58 = .ok (.aload_n 0, 1) := by decide +kernel
theorem dX10_unpack_59 : decode cX10_unpack 59 = .ok (.getfield 171, 3) := by decide +kernel
theorem dX10_unpack_62 : decode cX10_unpack 62 = .ok (.ifCond .le 9, 3) := by decide +kernel
theorem dX10_unpack_65 : decode cX10_unpack 65 = .ok (.aload_n 0, 1) := by decide +kernel
theorem dX10_unpack_66 : decode cX10_unpack 66 = .ok (.getfield 171, 3) := by decide +kernel
theorem dX10_unpack_69 : decode cX10_unpack 69 = .ok (.ineg, 1) := by decide +kernel
theorem dX10_unpack_70 : decode cX10_unpack 70 = .ok (.ireturn, 1) := by decide +kernel
theorem dX10_unpack_71 : decode cX10_unpack 71 = .ok (.iconst 0, 1) := by decide +kernel
theorem dX10_unpack_72 : decode cX10_unpack 72 = .ok (.istore_n 3, 1) := by decide +kernel
theorem dX10_unpack_73 : decode cX10_unpack 73 = .ok (.iload_n 3, 1) := by decide +kernel
theorem dX10_unpack_74 : decode cX10_unpack 74 = .ok (.iload_n 2, 1) := by decide +kernel
theorem dX10_unpack_75 : decode cX10_unpack 75 = .ok (.if_icmp .ge 21, 3) := by decide +kernel
theorem dX10_unpack_78 : decode cX10_unpack 78 = .ok (.aload_n 0, 1) := by decide +kernel
theorem dX10_unpack_79 : decode cX10_unpack 79 = .ok (.getfield 28, 3) := by decide +kernel
theorem dX10_unpack_82 : decode cX10_unpack 82 = .ok (.iload_n 3, 1) := by decide +kernel
theorem dX10_unpack_83 : decode cX10_unpack 83 = .ok (.aload_n 0, 1) := by decide +kernel
theorem dX10_unpack_84 : decode cX10_unpack 84 = .ok (.getfield 48, 3) := by decide +kernel
theorem dX10_unpack_87 : decode cX10_unpack 87 = .ok (.iload_n 3, 1) := by decide +kernel
theorem dX10_unpack_88 : decode cX10_unpack 88 = .ok (.iaload, 1) := by decide +kernel
theorem dX10_unpack_89 : decode cX10_unpack 89 = .ok (.iastore, 1) := by decide +kernel
theorem dX10_unpack_90 : decode cX10_unpack 90 = .ok (.iinc 3 1, 3) := by decide +kernel
theorem dX10_unpack_93 : decode cX10_unpack 93 = .ok (.goto (-20), 3) := by decide +kernel
theorem dX10_unpack_96 : decode cX10_unpack 96 = .ok (.aload_n 0, 1) := by decide +kernel
theorem dX10_unpack_97 : decode cX10_unpack 97 = .ok (.iload_n 2, 1) := by decide +kernel
theorem dX10_unpack_98 : decode cX10_unpack 98 = .ok (.putfield 120, 3) := by decide +kernel
theorem dX10_unpack_101 : decode cX10_unpack 101 = .ok (.aload_n 0, 1) := by decide +kernel
theorem dX10_unpack_102 : decode cX10_unpack 102 = .ok (.getfield 186, 3) := by decide +kernel
theorem dX10_unpack_105 : decode cX10_unpack 105 = .ok (.istore_n 3, 1) := by decide +kernel
theorem dX10_unpack_106 : decode cX10_unpack 106 = .ok (.aload_n 0, 1) := by decide +kernel
theorem dX10_unpack_107 : decode cX10_unpack 107 = .ok (.aload_n 0, 1) := by decide +kernel
theorem dX10_unpack_108 : decode cX10_unpack 108 = .ok (.getfield 177, 3) := by decide +kernel
theorem dX10_unpack_111 : decode cX10_unpack 111 = .ok (.putfield 186, 3) := by decide +kernel
theorem dX10_unpack_114 : decode cX10_unpack 114 = .ok (.aload_n 0, 1) := by decide +kernel
theorem dX10_unpack_115 : decode cX10_unpack 115 = .ok (.getfield 177, 3) := by decide +kernel
theorem dX10_unpack_118 : decode cX10_unpack 118 = .ok (.iload_n 3, 1) := by decide +kernel
theorem dX10_unpack_119 : decode cX10_unpack 119 = .ok (.isub, 1) := by decide +kernel
theorem dX10_unpack_120 : decode cX10_unpack 120 = .ok (.ireturn, 1) := by decide +kernel
theorem dX10_place_0 : decode cX10_place 0 = .ok (.aload_n 0, 1) := by decide +kernel
theorem dX10_place_1 : decode cX10_place 1 = .ok (.iconst 0, 1) := by decide +kernel
theorem dX10_place_2 : decode cX10_place 2 = .ok (.putfield 99, 3) := by decide +kernel
theorem dX10_place_5 : decode cX10_place 5 = .ok (.aload_n 0, 1) := by decide +kernel
theorem dX10_place_6 : decode cX10_place 6 = .ok (.getfield 34, 3) := by decide +kernel
theorem dX10_place_9 : decode cX10_place 9 = .ok (.ireturn, 1) := by decide +kernel
theorem dX10_best_0 : decode cX10_best 0 = .ok (.aload_n 0, 1) := by decide +kernel
theorem dX10_best_1 : decode cX10_best 1 = .ok (.aload_n 0, 1) := by decide +kernel
theorem dX10_best_2 : decode cX10_best 2 = .ok (.iload_n 1, 1) := by decide +kernel
theorem dX10_best_3 : decode cX10_best 3 = .ok (.invokevirtual 113, 3) := by decide +kernel
theorem dX10_best_6 : decode cX10_best 6 = .ok (.ifCond .eq 16, 3) := by decide +kernel
theorem dX10_best_9 : decode cX10_best 9 = .ok (.aload_n 0, 1) := by decide +kernel
theorem dX10_best_10 : decode cX10_best 10 = .ok (.iload_n 2, 1) := by decide +kernel
theorem dX10_best_11 : decode cX10_best 11 = .ok (.invokevirtual 113, 3) := by decide +kernel
theorem dX10_best_14 : decode cX10_best 14 = .ok (.ifCond .eq 8, 3) := by decide +kernel
theorem dX10_best_17 : decode cX10_best 17 = .ok (.iload_n 2, 1) := by decide +kernel
theorem dX10_best_18 : decode cX10_best 18 = .ok (.iload_n 1, 1) := by decide +kernel
theorem dX10_best_19 : decode cX10_best 19 = .ok (.if_icmp .ge 7, 3) := by decide +kernel
theorem dX10_best_22 : decode cX10_best 22 = .ok (.iconst 1, 1) := by decide +kernel
theorem dX10_best_23 : decode cX10_best 23 = .ok (.goto 4, 3) := by decide +kernel
theorem dX10_best_26 : decode cX10_best 26 = .ok (.iconst 0, 1) := by decide +kernel
theorem dX10_best_27 : decode cX10_best 27 = .ok (.invokevirtual 105, 3) := by decide +kernel
theorem dX10_best_30 : decode cX10_best 30 = .ok (.ifCond .eq 5, 3) := by decide +kernel
theorem dX10_best_33 : decode cX10_best 33 = .ok (.iconst 0, 1) := by decide +kernel
theorem dX10_best_34 : decode cX10_best 34 = .ok (.ireturn, 1) := by decide +kernel
theorem dX10_best_35 : decode cX10_best 35 = .ok (.iconst (-1), 1) := by decide +kernel
theorem dX10_best_36 : decode cX10_best 36 = .ok (.istore_n 3, 1) := by decide +kernel
theorem dX10_best_37 : decode cX10_best 37 = .ok (.iconst (-1), 1) := by decide +kernel
theorem dX10_best_38 : decode cX10_best 38 = .ok (.istore 4, 2) := by decide +kernel
theorem dX10_best_40 : decode cX10_best 40 = .ok (.iload_n 1, 1) := by decide +kernel
theorem dX10_best_41 : decode cX10_best 41 = .ok (.istore 5, 2) := by decide +kernel
theorem dX10_best_43 : decode cX10_best 43 = .ok (.iload 5, 2) := by decide +kernel
theorem dX10_best_45 : decode cX10_best 45 = .ok (.iload_n 2, 1) := by decide +kernel
theorem dX10_best_46 : decode cX10_best 46 = .ok (.if_icmp .gt 41, 3) := by decide +kernel
theorem dX10_best_49 : decode cX10_best 49 = .ok (.aload_n 0, 1) := by decide +kernel
theorem dX10_best_50 : decode cX10_best 50 = .ok (.iload 5, 2) := by decide +kernel
theorem dX10_best_52 : decode cX10_best 52 = .ok (.invokevirtual 165, 3) := by decide +kernel
theorem dX10_best_55 : decode cX10_best 55 = .ok (.ifCond .eq 26, 3) := by decide +kernel
theorem dX10_best_58 : decode cX10_best 58 = .ok (.iload 4, 2) := by decide +kernel
theorem dX10_best_60 : decode cX10_best 60 = .ok (.iconst (-1), 1) := by decide +kernel
theorem dX10_best_61 : decode cX10_best 61 = .ok (.if_icmp .eq 11, 3) := by decide +kernel
theorem dX10_best_64 : decode cX10_best 64 = .ok (.aload_n 0, 1) := by decide +kernel
theorem dX10_best_65 : decode cX10_best 65 = .ok (.getfield 141, 3) := by decide +kernel
theorem dX10_best_68 : decode cX10_best 68 = .ok (.iload_n 3, 1) := by decide +kernel
theorem dX10_best_69 : decode cX10_best 69 = .ok (.if_icmp .ge 12, 3) := by decide +kernel
theorem dX10_best_72 : decode cX10_best 72 = .ok (.iload 5, 2) := by decide +kernel
theorem dX10_best_74 : decode cX10_best 74 = .ok (.istore 4, 2) := by decide +kernel
theorem dX10_best_76 : decode cX10_best 76 = .ok (.aload_n 0, 1) := by decide +kernel
theorem dX10_best_77 : decode cX10_best 77 = .ok (.getfield 141, 3) := by decide +kernel
theorem dX10_best_80 : decode cX10_best 80 = .ok (.istore_n 3, 1) := by decide +kernel
theorem dX10_best_81 : decode cX10_best 81 = .ok (.iinc 5 1, 3) := by decide +kernel
theorem dX10_best_84 : decode cX10_best 84 = .ok (.goto (-41), 3) := by decide +kernel
theorem dX10_best_87 : decode cX10_best 87 = .ok (.iload 4, 2) := by decide +kernel
theorem dX10_best_89 : decode cX10_best 89 = .ok (.ireturn, 1) := by decide +kernel
theorem dX10_sums_0 : decode cX10_sums 0 = .ok (.sipush 401, 3) := by decide +kernel
theorem dX10_sums_3 : decode cX10_sums 3 = .ok (.iload_n 1, 1) := by decide +kernel
theorem dX10_sums_4 : decode cX10_sums 4 = .ok (.imul, 1) := by decide +kernel
theorem dX10_sums_5 : decode cX10_sums 5 = .ok (.istore_n 2, 1) := by decide +kernel
theorem dX10_sums_6 : decode cX10_sums 6 = .ok (.aload_n 0, 1) := by decide +kernel
theorem dX10_sums_7 : decode cX10_sums 7 = .ok (.getfield 93, 3) := by decide +kernel
theorem dX10_sums_10 : decode cX10_sums 10 = .ok (.iload_n 2, 1) := by decide +kernel
theorem dX10_sums_11 : decode cX10_sums 11 = .ok (.iconst 0, 1) := by decide +kernel
theorem dX10_sums_12 : decode cX10_sums 12 = .ok (.iastore, 1) := by decide +kernel
theorem dX10_sums_13 : decode cX10_sums 13 = .ok (.aload_n 0, 1) := by decide +kernel
theorem dX10_sums_14 : decode cX10_sums 14 = .ok (.getfield 96, 3) := by decide +kernel
theorem dX10_sums_17 : decode cX10_sums 17 = .ok (.iload_n 2, 1) := by decide +kernel
theorem dX10_sums_18 : decode cX10_sums 18 = .ok (.aload_n 0, 1) := by decide +kernel
theorem dX10_sums_19 : decode cX10_sums 19 = .ok (.getfield 120, 3) := by decide +kernel
theorem dX10_sums_22 : decode cX10_sums 22 = .ok (.iadd, 1) := by decide +kernel
theorem dX10_sums_23 : decode cX10_sums 23 = .ok (.iconst 0, 1) := by decide +kernel
theorem dX10_sums_24 : decode cX10_sums 24 = .ok (.iastore, 1) := by decide +kernel
theorem dX10_sums_25 : decode cX10_sums 25 = .ok (.iconst 0, 1) := by decide +kernel
theorem dX10_sums_26 : decode cX10_sums 26 = .ok (.istore_n 3, 1) := by decide +kernel
theorem dX10_sums_27 : decode cX10_sums 27 = .ok (.iload_n 3, 1) := by decide +kernel
theorem dX10_sums_28 : decode cX10_sums 28 = .ok (.aload_n 0, 1) := by decide +kernel
theorem dX10_sums_29 : decode cX10_sums 29 = .ok (.getfield 120, 3) := by decide +kernel
theorem dX10_sums_32 : decode cX10_sums 32 = .ok (.if_icmp .ge 85, 3) := by decide +kernel
theorem dX10_sums_35 : decode cX10_sums 35 = .ok (.aload_n 0, 1) := by decide +kernel
theorem dX10_sums_36 : decode cX10_sums 36 = .ok (.iload_n 1, 1) := by decide +kernel
theorem dX10_sums_37 : decode cX10_sums 37 = .ok (.aload_n 0, 1) := by decide +kernel
theorem dX10_sums_38 : decode cX10_sums 38 = .ok (.iload_n 1, 1) := by decide +kernel
theorem dX10_sums_39 : decode cX10_sums 39 = .ok (.aload_n 0, 1) := by decide +kernel
theorem dX10_sums_40 : decode cX10_sums 40 = .ok (.getfield 28, 3) := by decide +kernel
theorem dX10_sums_43 : decode cX10_sums 43 = .ok (.iload_n 3, 1) := by decide +kernel
theorem dX10_sums_44 : decode cX10_sums 44 = .ok (.iaload, 1) := by decide +kernel
theorem dX10_sums_45 : decode cX10_sums 45 = .ok (.iload_n 3, 1) := by decide +kernel
theorem dX10_sums_46 : decode cX10_sums 46 = .ok (.ifCond .ne 7, 3) := by decide +kernel
theorem dX10_sums_49 : decode cX10_sums 49 = .ok (.iconst 0, 1) := by decide +kernel
theorem dX10_sums_50 : decode cX10_sums 50 = .ok (.goto 11, 3) := by decide +kernel
theorem dX10_sums_53 : decode cX10_sums 53 = .ok (.aload_n 0, 1) := by decide +kernel
theorem dX10_sums_54 : decode cX10_sums 54 = .ok (.getfield 28, 3) := by decide +kernel
theorem dX10_sums_57 : decode cX10_sums 57 = .ok (.iload_n 3, 1) := by decide +kernel
theorem dX10_sums_58 : decode cX10_sums 58 = .ok (.iconst 1, 1) := by decide +kernel
theorem dX10_sums_59 : decode cX10_sums 59 = .ok (.isub, 1) := by decide +kernel
theorem dX10_sums_60 : decode cX10_sums 60 = .ok (.iaload, 1) := by decide +kernel
theorem dX10_sums_61 : decode cX10_sums 61 = .ok (.invokevirtual 157, 3) := by decide +kernel
theorem dX10_sums_64 : decode cX10_sums 64 = .ok (.iconst 0, 1) := by decide +kernel
theorem dX10_sums_65 : decode cX10_sums 65 = .ok (.invokevirtual 161, 3) := by decide +kernel
theorem dX10_sums_68 : decode cX10_sums 68 = .ok (.istore 4, 2) := by decide +kernel
theorem dX10_sums_70 : decode cX10_sums 70 = .ok (.aload_n 0, 1) := by decide +kernel
theorem dX10_sums_71 : decode cX10_sums 71 = .ok (.getfield 93, 3) := by decide +kernel
theorem dX10_sums_74 : decode cX10_sums 74 = .ok (.iload_n 2, 1) := by decide +kernel
theorem dX10_sums_75 : decode cX10_sums 75 = .ok (.iload_n 3, 1) := by decide +kernel
theorem dX10_sums_76 : decode cX10_sums 76 = .ok (.iadd, 1) := by decide +kernel
theorem dX10_sums_77 : decode cX10_sums 77 = .ok (.iconst 1, 1) := by decide +kernel
theorem dX10_sums_78 : decode cX10_sums 78 = .ok (.iadd, 1) := by decide +kernel
theorem dX10_sums_79 : decode cX10_sums 79 = .ok (.aload_n 0, 1) := by decide +kernel
theorem dX10_sums_80 : decode cX10_sums 80 = .ok (.getfield 93, 3) := by decide +kernel
theorem dX10_sums_83 : decode cX10_sums 83 = .ok (.iload_n 2, 1) := by decide +kernel
theorem dX10_sums_84 : decode cX10_sums 84 = .ok (.iload_n 3, 1) := by decide +kernel
theorem dX10_sums_85 : decode cX10_sums 85 = .ok (.iadd, 1) := by decide +kernel
theorem dX10_sums_86 : decode cX10_sums 86 = .ok (.iaload, 1) := by decide +kernel
theorem dX10_sums_87 : decode cX10_sums 87 = .ok (.ifCond .lt 8, 3) := by decide +kernel
theorem dX10_sums_90 : decode cX10_sums 90 = .ok (.iload 4, 2) := by decide +kernel
theorem dX10_sums_92 : decode cX10_sums 92 = .ok (.ifCond .ne 7, 3) := by decide +kernel
theorem dX10_sums_95 : decode cX10_sums 95 = .ok (.iconst (-1), 1) := by decide +kernel
theorem dX10_sums_96 : decode cX10_sums 96 = .ok (.goto 14, 3) := by decide +kernel
theorem dX10_sums_99 : decode cX10_sums 99 = .ok (.aload_n 0, 1) := by decide +kernel
theorem dX10_sums_100 : decode cX10_sums 100 = .ok (.getfield 93, 3) := by decide +kernel
theorem dX10_sums_103 : decode cX10_sums 103 = .ok (.iload_n 2, 1) := by decide +kernel
theorem dX10_sums_104 : decode cX10_sums 104 = .ok (.iload_n 3, 1) := by decide +kernel
theorem dX10_sums_105 : decode cX10_sums 105 = .ok (.iadd, 1) := by decide +kernel
theorem dX10_sums_106 : decode cX10_sums 106 = .ok (.iaload, 1) := by decide +kernel
theorem dX10_sums_107 : decode cX10_sums 107 = .ok (.iload 4, 2) := by decide +kernel
theorem dX10_sums_109 : decode cX10_sums 109 = .ok (.iadd, 1) := by decide +kernel
theorem dX10_sums_110 : decode cX10_sums 110 = .ok (.iastore, 1) := by decide +kernel
theorem dX10_sums_111 : decode cX10_sums 111 = .ok (.iinc 3 1, 3) := by decide +kernel
theorem dX10_sums_114 : decode cX10_sums 114 = .ok (.goto (-87), 3) := by decide +kernel
theorem dX10_sums_117 : decode cX10_sums 117 = .ok (.iconst 0, 1) := by decide +kernel
theorem dX10_sums_118 : decode cX10_sums 118 = .ok (.istore_n 3, 1) := by decide +kernel
theorem dX10_sums_119 : decode cX10_sums 119 = .ok (.aload_n 0, 1) := by decide +kernel
theorem dX10_sums_120 : decode cX10_sums 120 = .ok (.getfield 120, 3) := by decide +kernel
theorem dX10_sums_123 : decode cX10_sums 123 = .ok (.iconst 1, 1) := by decide +kernel
theorem dX10_sums_124 : decode cX10_sums 124 = .ok (.isub, 1) := by decide +kernel
theorem dX10_sums_125 : decode cX10_sums 125 = .ok (.istore 4, 2) := by decide +kernel
theorem dX10_sums_127 : decode cX10_sums 127 = .ok (.iload 4, 2) := by decide +kernel
theorem dX10_sums_129 : decode cX10_sums 129 = .ok (.ifCond .lt 106, 3) := by decide +kernel
theorem dX10_sums_132 : decode cX10_sums 132 = .ok (.aload_n 0, 1) := by decide +kernel
theorem dX10_sums_133 : decode cX10_sums 133 = .ok (.iload_n 1, 1) := by decide +kernel
theorem dX10_sums_134 : decode cX10_sums 134 = .ok (.aload_n 0, 1) := by decide +kernel
theorem dX10_sums_135 : decode cX10_sums 135 = .ok (.getfield 28, 3) := by decide +kernel
theorem dX10_sums_138 : decode cX10_sums 138 = .ok (.iload 4, 2) := by decide +kernel
theorem dX10_sums_140 : decode cX10_sums 140 = .ok (.iaload, 1) := by decide +kernel
theorem dX10_sums_141 : decode cX10_sums 141 = .ok (.iconst 0, 1) := by decide +kernel
theorem dX10_sums_142 : decode cX10_sums 142 = .ok (.invokevirtual 161, 3) := by decide +kernel
theorem dX10_sums_145 : decode cX10_sums 145 = .ok (.istore 5, 2) := by decide +kernel
theorem dX10_sums_147 : decode cX10_sums 147 = .ok (.aload_n 0, 1) := by decide +kernel
theorem dX10_sums_148 : decode cX10_sums 148 = .ok (.getfield 96, 3) := by decide +kernel
theorem dX10_sums_151 : decode cX10_sums 151 = .ok (.iload_n 2, 1) := by decide +kernel
theorem dX10_sums_152 : decode cX10_sums 152 = .ok (.iload 4, 2) := by decide +kernel
theorem dX10_sums_154 : decode cX10_sums 154 = .ok (.iadd, 1) := by decide +kernel
theorem dX10_sums_155 : decode cX10_sums 155 = .ok (.iload_n 3, 1) := by decide +kernel
theorem dX10_sums_156 : decode cX10_sums 156 = .ok (.ifCond .lt 8, 3) := by decide +kernel
theorem dX10_sums_159 : decode cX10_sums 159 = .ok (.iload 5, 2) := by decide +kernel
theorem dX10_sums_161 : decode cX10_sums 161 = .ok (.ifCond .ne 7, 3) := by decide +kernel
theorem dX10_sums_164 : decode cX10_sums 164 = .ok (.iconst (-1), 1) := by decide +kernel
theorem dX10_sums_165 : decode cX10_sums 165 = .ok (.goto 7, 3) := by decide +kernel
theorem dX10_sums_168 : decode cX10_sums 168 = .ok (.iload_n 3, 1) := by decide +kernel
theorem dX10_sums_169 : decode cX10_sums 169 = .ok (.iload 5, 2) := by decide +kernel
theorem dX10_sums_171 : decode cX10_sums 171 = .ok (.iadd, 1) := by decide +kernel
theorem dX10_sums_172 : decode cX10_sums 172 = .ok (.iastore, 1) := by decide +kernel
theorem dX10_sums_173 : decode cX10_sums 173 = .ok (.iload 4, 2) := by decide +kernel
theorem dX10_sums_175 : decode cX10_sums 175 = .ok (.ifCond .ne 7, 3) := by decide +kernel
theorem dX10_sums_178 : decode cX10_sums 178 = .ok (.iconst 0, 1) := by decide +kernel
theorem dX10_sums_179 : decode cX10_sums 179 = .ok (.goto 30, 3) := by decide +kernel
theorem dX10_sums_182 : decode cX10_sums 182 = .ok (.aload_n 0, 1) := by decide +kernel
theorem dX10_sums_183 : decode cX10_sums 183 = .ok (.iload_n 1, 1) := by decide +kernel
theorem dX10_sums_184 : decode cX10_sums 184 = .ok (.aload_n 0, 1) := by decide +kernel
theorem dX10_sums_185 : decode cX10_sums 185 = .ok (.iload_n 1, 1) := by decide +kernel
theorem dX10_sums_186 : decode cX10_sums 186 = .ok (.aload_n 0, 1) := by decide +kernel
theorem dX10_sums_187 : decode cX10_sums 187 = .ok (.getfield 28, 3) := by decide +kernel
theorem dX10_sums_190 : decode cX10_sums 190 = .ok (.iload 4, 2) := by decide +kernel
theorem dX10_sums_192 : decode cX10_sums 192 = .ok (.iaload, 1) := by decide +kernel
theorem dX10_sums_193 : decode cX10_sums 193 = .ok (.aload_n 0, 1) := by decide +kernel
theorem dX10_sums_194 : decode cX10_sums 194 = .ok (.getfield 28, 3) := by decide +kernel
theorem dX10_sums_197 : decode cX10_sums 197 = .ok (.iload 4, 2) := by decide +kernel
theorem dX10_sums_199 : decode cX10_sums 199 = .ok (.iconst 1, 1) := by decide +kernel
theorem dX10_sums_200 : decode cX10_sums 200 = .ok (.isub, 1) := by decide +kernel
theorem dX10_sums_201 : decode cX10_sums 201 = .ok (.iaload, 1) := by decide +kernel
theorem dX10_sums_202 : decode cX10_sums 202 = .ok (.invokevirtual 157, 3) := by decide +kernel
theorem dX10_sums_205 : decode cX10_sums 205 = .ok (.iconst 0, 1) := by decide +kernel
theorem dX10_sums_206 : decode cX10_sums 206 = .ok (.invokevirtual 161, 3) := by decide +kernel
theorem dX10_sums_209 : decode cX10_sums 209 = .ok (.istore 6, 2) := by decide +kernel
theorem dX10_sums_211 : decode cX10_sums 211 = .ok (.iload_n 3, 1) := by decide +kernel
theorem dX10_sums_212 : decode cX10_sums 212 = .ok (.ifCond .lt 8, 3) := by decide +kernel
theorem dX10_sums_215 : decode cX10_sums 215 = .ok (.iload 6, 2) := by decide +kernel
theorem dX10_sums_217 : decode cX10_sums 217 = .ok (.ifCond .ne 7, 3) := by decide +kernel
theorem dX10_sums_220 : decode cX10_sums 220 = .ok (.iconst (-1), 1) := by decide +kernel
theorem dX10_sums_221 : decode cX10_sums 221 = .ok (.goto 7, 3) := by decide +kernel
theorem dX10_sums_224 : decode cX10_sums 224 = .ok (.iload_n 3, 1) := by decide +kernel
theorem dX10_sums_225 : decode cX10_sums 225 = .ok (.iload 6, 2) := by decide +kernel
theorem dX10_sums_227 : decode cX10_sums 227 = .ok (.iadd, 1) := by decide +kernel
theorem dX10_sums_228 : decode cX10_sums 228 = .ok (.istore_n 3, 1) := by decide +kernel
theorem dX10_sums_229 : decode cX10_sums 229 = .ok (.iinc 4 (-1), 3) := by decide +kernel
theorem dX10_sums_232 : decode cX10_sums 232 = .ok (.goto (-105), 3) := by decide +kernel
theorem dX10_sums_235 : decode cX10_sums 235 = .ok (.return_, 1) := by decide +kernel
theorem dX10_bestRun_0 : decode cX10_bestRun 0 = .ok (.aload_n 0, 1) := by decide +kernel
theorem dX10_bestRun_1 : decode cX10_bestRun 1 = .ok (.iconst 0, 1) := by decide +kernel
theorem dX10_bestRun_2 : decode cX10_bestRun 2 = .ok (.putfield 99, 3) := by decide +kernel
theorem dX10_bestRun_5 : decode cX10_bestRun 5 = .ok (.iconst (-1), 1) := by decide +kernel
theorem dX10_bestRun_6 : decode cX10_bestRun 6 = .ok (.istore_n 1, 1) := by decide +kernel
theorem dX10_bestRun_7 : decode cX10_bestRun 7 = .ok (.aload_n 0, 1) := by decide +kernel
theorem dX10_bestRun_8 : decode cX10_bestRun 8 = .ok (.iconst (-1), 1) := by decide +kernel
theorem dX10_bestRun_9 : decode cX10_bestRun 9 = .ok (.putfield 38, 3) := by decide +kernel
theorem dX10_bestRun_12 : decode cX10_bestRun 12 = .ok (.aload_n 0, 1) := by decide +kernel
theorem dX10_bestRun_13 : decode cX10_bestRun 13 = .ok (.iconst (-1), 1) := by decide +kernel
theorem dX10_bestRun_14 : decode cX10_bestRun 14 = .ok (.putfield 41, 3) := by decide +kernel
theorem dX10_bestRun_17 : decode cX10_bestRun 17 = .ok (.aload_n 0, 1) := by decide +kernel
theorem dX10_bestRun_18 : decode cX10_bestRun 18 = .ok (.iconst (-1), 1) := by decide +kernel
theorem dX10_bestRun_19 : decode cX10_bestRun 19 = .ok (.putfield 44, 3) := by decide +kernel
theorem dX10_bestRun_22 : decode cX10_bestRun 22 = .ok (.iconst 0, 1) := by decide +kernel
theorem dX10_bestRun_23 : decode cX10_bestRun 23 = .ok (.istore_n 2, 1) := by decide +kernel
theorem dX10_bestRun_24 : decode cX10_bestRun 24 = .ok (.iload_n 2, 1) := by decide +kernel
theorem dX10_bestRun_25 : decode cX10_bestRun 25 = .ok (.aload_n 0, 1) := by decide +kernel
theorem dX10_bestRun_26 : decode cX10_bestRun 26 = .ok (.getfield 102, 3) := by decide +kernel
theorem dX10_bestRun_29 : decode cX10_bestRun 29 = .ok (.if_icmp .ge 23, 3) := by decide +kernel
theorem dX10_bestRun_32 : decode cX10_bestRun 32 = .ok (.aload_n 0, 1) := by decide +kernel
theorem dX10_bestRun_33 : decode cX10_bestRun 33 = .ok (.getfield 7, 3) := by decide +kernel
theorem dX10_bestRun_36 : decode cX10_bestRun 36 = .ok (.iload_n 2, 1) := by decide +kernel
theorem dX10_bestRun_37 : decode cX10_bestRun 37 = .ok (.iaload, 1) := by decide +kernel
theorem dX10_bestRun_38 : decode cX10_bestRun 38 = .ok (.ifCond .ne 8, 3) := by decide +kernel
theorem dX10_bestRun_41 : decode cX10_bestRun 41 = .ok (.aload_n 0, 1) := by decide +kernel
theorem dX10_bestRun_42 : decode cX10_bestRun 42 = .ok (.iload_n 2, 1) := by decide +kernel
theorem dX10_bestRun_43 : decode cX10_bestRun 43 = .ok (.invokevirtual 206, 3) := by decide +kernel
theorem dX10_bestRun_46 : decode cX10_bestRun 46 = .ok (.iinc 2 1, 3) := by decide +kernel
theorem dX10_bestRun_49 : decode cX10_bestRun 49 = .ok (.goto (-25), 3) := by decide +kernel
theorem dX10_bestRun_52 : decode cX10_bestRun 52 = .ok (.iconst 0, 1) := by decide +kernel
theorem dX10_bestRun_53 : decode cX10_bestRun 53 = .ok (.istore_n 2, 1) := by decide +kernel
theorem dX10_bestRun_54 : decode cX10_bestRun 54 = .ok (.iload_n 2, 1) := by decide +kernel
theorem dX10_bestRun_55 : decode cX10_bestRun 55 = .ok (.aload_n 0, 1) := by decide +kernel
theorem dX10_bestRun_56 : decode cX10_bestRun 56 = .ok (.getfield 120, 3) := by decide +kernel
theorem dX10_bestRun_59 : decode cX10_bestRun 59 = .ok (.if_icmp .gt 154, 3) := by decide +kernel
theorem dX10_bestRun_62 : decode cX10_bestRun 62 = .ok (.iconst 0, 1) := by decide +kernel
theorem dX10_bestRun_63 : decode cX10_bestRun 63 = .ok (.istore_n 3, 1) := by decide +kernel
theorem dX10_bestRun_64 : decode cX10_bestRun 64 = .ok (.iload_n 3, 1) := by decide +kernel
theorem dX10_bestRun_65 : decode cX10_bestRun 65 = .ok (.aload_n 0, 1) := by decide +kernel
theorem dX10_bestRun_66 : decode cX10_bestRun 66 = .ok (.getfield 102, 3) := by decide +kernel
theorem dX10_bestRun_69 : decode cX10_bestRun 69 = .ok (.if_icmp .ge 138, 3) := by decide +kernel
theorem dX10_bestRun_72 : decode cX10_bestRun 72 = .ok (.iconst 0, 1) := by decide +kernel
theorem dX10_bestRun_73 : decode cX10_bestRun 73 = .ok (.istore 4, 2) := by decide +kernel
theorem dX10_bestRun_75 : decode cX10_bestRun 75 = .ok (.iload 4, 2) := by decide +kernel
theorem dX10_bestRun_77 : decode cX10_bestRun 77 = .ok (.aload_n 0, 1) := by decide +kernel
theorem dX10_bestRun_78 : decode cX10_bestRun 78 = .ok (.getfield 102, 3) := by decide +kernel
theorem dX10_bestRun_81 : decode cX10_bestRun 81 = .ok (.if_icmp .ge 120, 3) := by decide +kernel
theorem dX10_bestRun_84 : decode cX10_bestRun 84 = .ok (.aload_n 0, 1) := by decide +kernel
theorem dX10_bestRun_85 : decode cX10_bestRun 85 = .ok (.getfield 7, 3) := by decide +kernel
theorem dX10_bestRun_88 : decode cX10_bestRun 88 = .ok (.iload_n 3, 1) := by decide +kernel
theorem dX10_bestRun_89 : decode cX10_bestRun 89 = .ok (.iaload, 1) := by decide +kernel
theorem dX10_bestRun_90 : decode cX10_bestRun 90 = .ok (.ifCond .ne 111, 3) := by decide +kernel
theorem dX10_bestRun_93 : decode cX10_bestRun 93 = .ok (.aload_n 0, 1) := by decide +kernel
theorem dX10_bestRun_94 : decode cX10_bestRun 94 = .ok (.getfield 93, 3) := by decide +kernel
theorem dX10_bestRun_97 : decode cX10_bestRun 97 = .ok (.sipush 401, 3) := by decide +kernel
theorem dX10_bestRun_100 : decode cX10_bestRun 100 = .ok (.iload_n 3, 1) := by decide +kernel
theorem dX10_bestRun_101 : decode cX10_bestRun 101 = .ok (.imul, 1) := by decide +kernel
theorem dX10_bestRun_102 : decode cX10_bestRun 102 = .ok (.iload_n 2, 1) := by decide +kernel
theorem dX10_bestRun_103 : decode cX10_bestRun 103 = .ok (.iadd, 1) := by decide +kernel
theorem dX10_bestRun_104 : decode cX10_bestRun 104 = .ok (.iaload, 1) := by decide +kernel
theorem dX10_bestRun_105 : decode cX10_bestRun 105 = .ok (.ifCond .lt 96, 3) := by decide +kernel
theorem dX10_bestRun_108 : decode cX10_bestRun 108 = .ok (.aload_n 0, 1) := by decide +kernel
theorem dX10_bestRun_109 : decode cX10_bestRun 109 = .ok (.getfield 7, 3) := by decide +kernel
theorem dX10_bestRun_112 : decode cX10_bestRun 112 = .ok (.iload 4, 2) := by decide +kernel
theorem dX10_bestRun_114 : decode cX10_bestRun 114 = .ok (.iaload, 1) := by decide +kernel
theorem dX10_bestRun_115 : decode cX10_bestRun 115 = .ok (.ifCond .ne 80, 3) := by decide +kernel
theorem dX10_bestRun_118 : decode cX10_bestRun 118 = .ok (.aload_n 0, 1) := by decide +kernel
theorem dX10_bestRun_119 : decode cX10_bestRun 119 = .ok (.getfield 96, 3) := by decide +kernel
theorem dX10_bestRun_122 : decode cX10_bestRun 122 = .ok (.sipush 401, 3) := by decide +kernel
theorem dX10_bestRun_125 : decode cX10_bestRun 125 = .ok (.iload 4, 2) := by decide +kernel
theorem dX10_bestRun_127 : decode cX10_bestRun 127 = .ok (.imul, 1) := by decide +kernel
theorem dX10_bestRun_128 : decode cX10_bestRun 128 = .ok (.iload_n 2, 1) := by decide +kernel
theorem dX10_bestRun_129 : decode cX10_bestRun 129 = .ok (.iadd, 1) := by decide +kernel
theorem dX10_bestRun_130 : decode cX10_bestRun 130 = .ok (.iaload, 1) := by decide +kernel
theorem dX10_bestRun_131 : decode cX10_bestRun 131 = .ok (.ifCond .ge 6, 3) := by decide +kernel
theorem dX10_bestRun_134 : decode cX10_bestRun 134 = .ok (.goto 61, 3) := by decide +kernel
theorem dX10_bestRun_137 : decode cX10_bestRun 137 = .ok (.aload_n 0, 1) := by decide +kernel
theorem dX10_bestRun_138 : decode cX10_bestRun 138 = .ok (.getfield 93, 3) := by decide +kernel
theorem dX10_bestRun_141 : decode cX10_bestRun 141 = .ok (.sipush 401, 3) := by decide +kernel
theorem dX10_bestRun_144 : decode cX10_bestRun 144 = .ok (.iload_n 3, 1) := by decide +kernel
theorem dX10_bestRun_145 : decode cX10_bestRun 145 = .ok (.imul, 1) := by decide +kernel
theorem dX10_bestRun_146 : decode cX10_bestRun 146 = .ok (.iload_n 2, 1) := by decide +kernel
theorem dX10_bestRun_147 : decode cX10_bestRun 147 = .ok (.iadd, 1) := by decide +kernel
theorem dX10_bestRun_148 : decode cX10_bestRun 148 = .ok (.iaload, 1) := by decide +kernel
theorem dX10_bestRun_149 : decode cX10_bestRun 149 = .ok (.aload_n 0, 1) := by decide +kernel
theorem dX10_bestRun_150 : decode cX10_bestRun 150 = .ok (.getfield 96, 3) := by decide +kernel
theorem dX10_bestRun_153 : decode cX10_bestRun 153 = .ok (.sipush 401, 3) := by decide +kernel
theorem dX10_bestRun_156 : decode cX10_bestRun 156 = .ok (.iload 4, 2) := by decide +kernel
theorem dX10_bestRun_158 : decode cX10_bestRun 158 = .ok (.imul, 1) := by decide +kernel
theorem dX10_bestRun_159 : decode cX10_bestRun 159 = .ok (.iload_n 2, 1) := by decide +kernel
theorem dX10_bestRun_160 : decode cX10_bestRun 160 = .ok (.iadd, 1) := by decide +kernel
theorem dX10_bestRun_161 : decode cX10_bestRun 161 = .ok (.iaload, 1) := by decide +kernel
theorem dX10_bestRun_162 : decode cX10_bestRun 162 = .ok (.iadd, 1) := by decide +kernel
theorem dX10_bestRun_163 : decode cX10_bestRun 163 = .ok (.istore 5, 2) := by decide +kernel
theorem dX10_bestRun_165 : decode cX10_bestRun 165 = .ok (.iload_n 1, 1) := by decide +kernel
theorem dX10_bestRun_166 : decode cX10_bestRun 166 = .ok (.iconst (-1), 1) := by decide +kernel
theorem dX10_bestRun_167 : decode cX10_bestRun 167 = .ok (.if_icmp .eq 9, 3) := by decide +kernel
theorem dX10_bestRun_170 : decode cX10_bestRun 170 = .ok (.iload 5, 2) := by decide +kernel
theorem dX10_bestRun_172 : decode cX10_bestRun 172 = .ok (.iload_n 1, 1) := by decide +kernel
theorem dX10_bestRun_173 : decode cX10_bestRun 173 = .ok (.if_icmp .ge 22, 3) := by decide +kernel
theorem dX10_bestRun_176 : decode cX10_bestRun 176 = .ok (.iload 5, 2) := by decide +kernel
theorem dX10_bestRun_178 : decode cX10_bestRun 178 = .ok (.istore_n 1, 1) := by decide +kernel
theorem dX10_bestRun_179 : decode cX10_bestRun 179 = .ok (.aload_n 0, 1) := by decide +kernel
theorem dX10_bestRun_180 : decode cX10_bestRun 180 = .ok (.iload_n 2, 1) := by decide +kernel
theorem dX10_bestRun_181 : decode cX10_bestRun 181 = .ok (.putfield 38, 3) := by decide +kernel
theorem dX10_bestRun_184 : decode cX10_bestRun 184 = .ok (.aload_n 0, 1) := by decide +kernel
theorem dX10_bestRun_185 : decode cX10_bestRun 185 = .ok (.iload_n 3, 1) := by decide +kernel
theorem dX10_bestRun_186 : decode cX10_bestRun 186 = .ok (.putfield 41, 3) := by decide +kernel
theorem dX10_bestRun_189 : decode cX10_bestRun 189 = .ok (.aload_n 0, 1) := by decide +kernel
theorem dX10_bestRun_190 : decode cX10_bestRun 190 = .ok (.iload 4, 2) := by decide +kernel
theorem dX10_bestRun_192 : decode cX10_bestRun 192 = .ok (.putfield 44, 3) := by decide +kernel
theorem dX10_bestRun_195 : decode cX10_bestRun 195 = .ok (.iinc 4 1, 3) := by decide +kernel
theorem dX10_bestRun_198 : decode cX10_bestRun 198 = .ok (.goto (-123), 3) := by decide +kernel
theorem dX10_bestRun_201 : decode cX10_bestRun 201 = .ok (.iinc 3 1, 3) := by decide +kernel
theorem dX10_bestRun_204 : decode cX10_bestRun 204 = .ok (.goto (-140), 3) := by decide +kernel
theorem dX10_bestRun_207 : decode cX10_bestRun 207 = .ok (.iinc 2 1, 3) := by decide +kernel
theorem dX10_bestRun_210 : decode cX10_bestRun 210 = .ok (.goto (-156), 3) := by decide +kernel
theorem dX10_bestRun_213 : decode cX10_bestRun 213 = .ok (.iload_n 1, 1) := by decide +kernel
theorem dX10_bestRun_214 : decode cX10_bestRun 214 = .ok (.ireturn, 1) := by decide +kernel
theorem dX10_chosen_0 : decode cX10_chosen 0 = .ok (.aload_n 0, 1) := by decide +kernel
theorem dX10_chosen_1 : decode cX10_chosen 1 = .ok (.iload_n 1, 1) := by decide +kernel
theorem dX10_chosen_2 : decode cX10_chosen 2 = .ok (.ifCond .lt 8, 3) := by decide +kernel
theorem dX10_chosen_5 : decode cX10_chosen 5 = .ok (.iload_n 1, 1) := by decide +kernel
theorem dX10_chosen_6 : decode cX10_chosen 6 = .ok (.iconst 2, 1) := by decide +kernel
theorem dX10_chosen_7 : decode cX10_chosen 7 = .ok (.if_icmp .le 7, 3) := by decide +kernel
theorem dX10_chosen_10 : decode cX10_chosen 10 = .ok (.iconst 1, 1) := by decide +kernel
theorem dX10_chosen_11 : decode cX10_chosen 11 = .ok (.goto 4, 3) := by decide +kernel
theorem dX10_chosen_14 : decode cX10_chosen 14 = .ok (.iconst 0, 1) := by decide +kernel
theorem dX10_chosen_15 : decode cX10_chosen 15 = .ok (.invokevirtual 105, 3) := by decide +kernel
theorem dX10_chosen_18 : decode cX10_chosen 18 = .ok (.ifCond .eq 5, 3) := by decide +kernel
theorem dX10_chosen_21 : decode cX10_chosen 21 = .ok (.iconst 0, 1) := by decide +kernel
theorem dX10_chosen_22 : decode cX10_chosen 22 = .ok (.ireturn, 1) := by decide +kernel
theorem dX10_chosen_23 : decode cX10_chosen 23 = .ok (.iload_n 1, 1) := by decide +kernel
theorem dX10_chosen_24 : decode cX10_chosen 24 = .ok (.ifCond .ne 10, 3) := by decide +kernel
theorem dX10_chosen_27 : decode cX10_chosen 27 = .ok (.aload_n 0, 1) := by decide +kernel
theorem dX10_chosen_28 : decode cX10_chosen 28 = .ok (.getfield 38, 3) := by decide +kernel
theorem dX10_chosen_31 : decode cX10_chosen 31 = .ok (.goto 19, 3) := by decide +kernel
theorem dX10_chosen_34 : decode cX10_chosen 34 = .ok (.iload_n 1, 1) := by decide +kernel
theorem dX10_chosen_35 : decode cX10_chosen 35 = .ok (.iconst 1, 1) := by decide +kernel
theorem dX10_chosen_36 : decode cX10_chosen 36 = .ok (.if_icmp .ne 10, 3) := by decide +kernel
theorem dX10_chosen_39 : decode cX10_chosen 39 = .ok (.aload_n 0, 1) := by decide +kernel
theorem dX10_chosen_40 : decode cX10_chosen 40 = .ok (.getfield 41, 3) := by decide +kernel
theorem dX10_chosen_43 : decode cX10_chosen 43 = .ok (.goto 7, 3) := by decide +kernel
theorem dX10_chosen_46 : decode cX10_chosen 46 = .ok (.aload_n 0, 1) := by decide +kernel
theorem dX10_chosen_47 : decode cX10_chosen 47 = .ok (.getfield 44, 3) := by decide +kernel
theorem dX10_chosen_50 : decode cX10_chosen 50 = .ok (.ireturn, 1) := by decide +kernel
theorem dX10_feed_0 : decode cX10_feed 0 = .ok (.aload_n 0, 1) := by decide +kernel
theorem dX10_feed_1 : decode cX10_feed 1 = .ok (.aload_n 0, 1) := by decide +kernel
theorem dX10_feed_2 : decode cX10_feed 2 = .ok (.getfield 168, 3) := by decide +kernel
theorem dX10_feed_5 : decode cX10_feed 5 = .ok (.iconst 4, 1) := by decide +kernel
theorem dX10_feed_6 : decode cX10_feed 6 = .ok (.iadd, 1) := by decide +kernel
theorem dX10_feed_7 : decode cX10_feed 7 = .ok (.sipush 8000, 3) := by decide +kernel
theorem dX10_feed_10 : decode cX10_feed 10 = .ok (.if_icmp .le 7, 3) := by decide +kernel
theorem dX10_feed_13 : decode cX10_feed 13 = .ok (.iconst 1, 1) := by decide +kernel
theorem dX10_feed_14 : decode cX10_feed 14 = .ok (.goto 4, 3) := by decide +kernel
theorem dX10_feed_17 : decode cX10_feed 17 = .ok (.iconst 0, 1) := by decide +kernel
theorem dX10_feed_18 : decode cX10_feed 18 = .ok (.invokevirtual 105, 3) := by decide +kernel
theorem dX10_feed_21 : decode cX10_feed 21 = .ok (.ifCond .eq 5, 3) := by decide +kernel
theorem dX10_feed_24 : decode cX10_feed 24 = .ok (.iconst 0, 1) := by decide +kernel
theorem dX10_feed_25 : decode cX10_feed 25 = .ok (.ireturn, 1) := by decide +kernel
theorem dX10_feed_26 : decode cX10_feed 26 = .ok (.bipush 24, 2) := by decide +kernel
theorem dX10_feed_28 : decode cX10_feed 28 = .ok (.istore_n 2, 1) := by decide +kernel
theorem dX10_feed_29 : decode cX10_feed 29 = .ok (.iload_n 2, 1) := by decide +kernel
theorem dX10_feed_30 : decode cX10_feed 30 = .ok (.ifCond .lt 35, 3) := by decide +kernel
theorem dX10_feed_33 : decode cX10_feed 33 = .ok (.aload_n 0, 1) := by decide +kernel
theorem dX10_feed_34 : decode cX10_feed 34 = .ok (.getfield 31, 3) := by decide +kernel
theorem dX10_feed_37 : decode cX10_feed 37 = .ok (.aload_n 0, 1) := by decide +kernel
theorem dX10_feed_38 : decode cX10_feed 38 = .ok (.getfield 168, 3) := by decide +kernel
theorem dX10_feed_41 : decode cX10_feed 41 = .ok (.iload_n 1, 1) := by decide +kernel
theorem dX10_feed_42 : decode cX10_feed 42 = .ok (.iload_n 2, 1) := by decide +kernel
theorem dX10_feed_43 : decode cX10_feed 43 = .ok (.ishr, 1) := by decide +kernel
theorem dX10_feed_44 : decode cX10_feed 44 = .ok (.sipush 255, 3) := by decide +kernel
theorem dX10_feed_47 : decode cX10_feed 47 = .ok (.iand, 1) := by decide +kernel
theorem dX10_feed_48 : decode cX10_feed 48 = .ok (.iastore, 1) := by decide +kernel
theorem dX10_feed_49 : decode cX10_feed 49 = .ok (.aload_n 0, 1) := by decide +kernel
theorem dX10_feed_50 : decode cX10_feed 50 = .ok (.dup, 1) := by decide +kernel
theorem dX10_feed_51 : decode cX10_feed 51 = .ok (.getfield 168, 3) := by decide +kernel
theorem dX10_feed_54 : decode cX10_feed 54 = .ok (.iconst 1, 1) := by decide +kernel
theorem dX10_feed_55 : decode cX10_feed 55 = .ok (.iadd, 1) := by decide +kernel
theorem dX10_feed_56 : decode cX10_feed 56 = .ok (.putfield 168, 3) := by decide +kernel
theorem dX10_feed_59 : decode cX10_feed 59 = .ok (.iinc 2 (-8), 3) := by decide +kernel
theorem dX10_feed_62 : decode cX10_feed 62 = .ok (.goto (-33), 3) := by decide +kernel
theorem dX10_feed_65 : decode cX10_feed 65 = .ok (.aload_n 0, 1) := by decide +kernel
theorem dX10_feed_66 : decode cX10_feed 66 = .ok (.getfield 168, 3) := by decide +kernel
theorem dX10_feed_69 : decode cX10_feed 69 = .ok (.ireturn, 1) := by decide +kernel
theorem dX10_end_0 : decode cX10_end 0 = .ok (.aload_n 0, 1) := by decide +kernel
theorem dX10_end_1 : decode cX10_end 1 = .ok (.iload_n 1, 1) := by decide +kernel
theorem dX10_end_2 : decode cX10_end 2 = .ok (.ifCond .lt 11, 3) := by decide +kernel
theorem dX10_end_5 : decode cX10_end 5 = .ok (.iload_n 1, 1) := by decide +kernel
theorem dX10_end_6 : decode cX10_end 6 = .ok (.aload_n 0, 1) := by decide +kernel
theorem dX10_end_7 : decode cX10_end 7 = .ok (.getfield 168, 3) := by decide +kernel
theorem dX10_end_10 : decode cX10_end 10 = .ok (.if_icmp .le 7, 3) := by decide +kernel
theorem dX10_end_13 : decode cX10_end 13 = .ok (.iconst 1, 1) := by decide +kernel
theorem dX10_end_14 : decode cX10_end 14 = .ok (.goto 4, 3) := by decide +kernel
theorem dX10_end_17 : decode cX10_end 17 = .ok (.iconst 0, 1) := by decide +kernel
theorem dX10_end_18 : decode cX10_end 18 = .ok (.invokevirtual 105, 3) := by decide +kernel
theorem dX10_end_21 : decode cX10_end 21 = .ok (.ifCond .eq 4, 3) := by decide +kernel
theorem dX10_end_24 : decode cX10_end 24 = .ok (.return_, 1) := by decide +kernel
theorem dX10_end_25 : decode cX10_end 25 = .ok (.aload_n 0, 1) := by decide +kernel
theorem dX10_end_26 : decode cX10_end 26 = .ok (.iload_n 1, 1) := by decide +kernel
theorem dX10_end_27 : decode cX10_end 27 = .ok (.putfield 168, 3) := by decide +kernel
theorem dX10_end_30 : decode cX10_end 30 = .ok (.aload_n 0, 1) := by decide +kernel
theorem dX10_end_31 : decode cX10_end 31 = .ok (.aload_n 0, 1) := by decide +kernel
theorem dX10_end_32 : decode cX10_end 32 = .ok (.getfield 186, 3) := by decide +kernel
theorem dX10_end_35 : decode cX10_end 35 = .ok (.iload_n 1, 1) := by decide +kernel
theorem dX10_end_36 : decode cX10_end 36 = .ok (.if_icmp .le 7, 3) := by decide +kernel
theorem dX10_end_39 : decode cX10_end 39 = .ok (.iload_n 1, 1) := by decide +kernel
theorem dX10_end_40 : decode cX10_end 40 = .ok (.goto 7, 3) := by decide +kernel
theorem dX10_end_43 : decode cX10_end 43 = .ok (.aload_n 0, 1) := by decide +kernel
theorem dX10_end_44 : decode cX10_end 44 = .ok (.getfield 186, 3) := by decide +kernel
theorem dX10_end_47 : decode cX10_end 47 = .ok (.putfield 186, 3) := by decide +kernel
theorem dX10_end_50 : decode cX10_end 50 = .ok (.return_, 1) := by decide +kernel
theorem dX10_seek_0 : decode cX10_seek 0 = .ok (.aload_n 0, 1) := by decide +kernel
theorem dX10_seek_1 : decode cX10_seek 1 = .ok (.iload_n 1, 1) := by decide +kernel
theorem dX10_seek_2 : decode cX10_seek 2 = .ok (.ifCond .lt 11, 3) := by decide +kernel
theorem dX10_seek_5 : decode cX10_seek 5 = .ok (.iload_n 1, 1) := by decide +kernel
theorem dX10_seek_6 : decode cX10_seek 6 = .ok (.aload_n 0, 1) := by decide +kernel
theorem dX10_seek_7 : decode cX10_seek 7 = .ok (.getfield 168, 3) := by decide +kernel
theorem dX10_seek_10 : decode cX10_seek 10 = .ok (.if_icmp .le 7, 3) := by decide +kernel
theorem dX10_seek_13 : decode cX10_seek 13 = .ok (.iconst 1, 1) := by decide +kernel
theorem dX10_seek_14 : decode cX10_seek 14 = .ok (.goto 4, 3) := by decide +kernel
theorem dX10_seek_17 : decode cX10_seek 17 = .ok (.iconst 0, 1) := by decide +kernel
theorem dX10_seek_18 : decode cX10_seek 18 = .ok (.invokevirtual 105, 3) := by decide +kernel
theorem dX10_seek_21 : decode cX10_seek 21 = .ok (.ifCond .eq 5, 3) := by decide +kernel
theorem dX10_seek_24 : decode cX10_seek 24 = .ok (.iconst 0, 1) := by decide +kernel
theorem dX10_seek_25 : decode cX10_seek 25 = .ok (.ireturn, 1) := by decide +kernel
theorem dX10_seek_26 : decode cX10_seek 26 = .ok (.aload_n 0, 1) := by decide +kernel
theorem dX10_seek_27 : decode cX10_seek 27 = .ok (.getfield 186, 3) := by decide +kernel
theorem dX10_seek_30 : decode cX10_seek 30 = .ok (.istore_n 2, 1) := by decide +kernel
theorem dX10_seek_31 : decode cX10_seek 31 = .ok (.aload_n 0, 1) := by decide +kernel
theorem dX10_seek_32 : decode cX10_seek 32 = .ok (.iload_n 1, 1) := by decide +kernel
theorem dX10_seek_33 : decode cX10_seek 33 = .ok (.putfield 186, 3) := by decide +kernel
theorem dX10_seek_36 : decode cX10_seek 36 = .ok (.iload_n 2, 1) := by decide +kernel
theorem dX10_seek_37 : decode cX10_seek 37 = .ok (.ireturn, 1) := by decide +kernel
theorem dX10_tape_0 : decode cX10_tape 0 = .ok (.aload_n 0, 1) := by decide +kernel
theorem dX10_tape_1 : decode cX10_tape 1 = .ok (.iconst 0, 1) := by decide +kernel
theorem dX10_tape_2 : decode cX10_tape 2 = .ok (.putfield 99, 3) := by decide +kernel
theorem dX10_tape_5 : decode cX10_tape 5 = .ok (.iload_n 1, 1) := by decide +kernel
theorem dX10_tape_6 : decode cX10_tape 6 = .ok (.ifCond .lt 20, 3) := by decide +kernel
theorem dX10_tape_9 : decode cX10_tape 9 = .ok (.iload_n 1, 1) := by decide +kernel
theorem dX10_tape_10 : decode cX10_tape 10 = .ok (.aload_n 0, 1) := by decide +kernel
theorem dX10_tape_11 : decode cX10_tape 11 = .ok (.getfield 168, 3) := by decide +kernel
theorem dX10_tape_14 : decode cX10_tape 14 = .ok (.if_icmp .ge 12, 3) := by decide +kernel
theorem dX10_tape_17 : decode cX10_tape 17 = .ok (.aload_n 0, 1) := by decide +kernel
theorem dX10_tape_18 : decode cX10_tape 18 = .ok (.getfield 31, 3) := by decide +kernel
theorem dX10_tape_21 : decode cX10_tape 21 = .ok (.iload_n 1, 1) := by decide +kernel
theorem dX10_tape_22 : decode cX10_tape 22 = .ok (.iaload, 1) := by decide +kernel
theorem dX10_tape_23 : decode cX10_tape 23 = .ok (.goto 4, 3) := by decide +kernel
theorem dX10_tape_26 : decode cX10_tape 26 = .ok (.iconst (-1), 1) := by decide +kernel
theorem dX10_tape_27 : decode cX10_tape 27 = .ok (.ireturn, 1) := by decide +kernel
theorem dX10_way_0 : decode cX10_way 0 = .ok (.aload_n 0, 1) := by decide +kernel
theorem dX10_way_1 : decode cX10_way 1 = .ok (.aload_n 0, 1) := by decide +kernel
theorem dX10_way_2 : decode cX10_way 2 = .ok (.iload_n 1, 1) := by decide +kernel
theorem dX10_way_3 : decode cX10_way 3 = .ok (.invokevirtual 113, 3) := by decide +kernel
theorem dX10_way_6 : decode cX10_way 6 = .ok (.ifCond .eq 12, 3) := by decide +kernel
theorem dX10_way_9 : decode cX10_way 9 = .ok (.iload_n 2, 1) := by decide +kernel
theorem dX10_way_10 : decode cX10_way 10 = .ok (.ifCond .lt 8, 3) := by decide +kernel
theorem dX10_way_13 : decode cX10_way 13 = .ok (.iload_n 2, 1) := by decide +kernel
theorem dX10_way_14 : decode cX10_way 14 = .ok (.iconst 4, 1) := by decide +kernel
theorem dX10_way_15 : decode cX10_way 15 = .ok (.if_icmp .le 7, 3) := by decide +kernel
theorem dX10_way_18 : decode cX10_way 18 = .ok (.iconst 1, 1) := by decide +kernel
theorem dX10_way_19 : decode cX10_way 19 = .ok (.goto 4, 3) := by decide +kernel
theorem dX10_way_22 : decode cX10_way 22 = .ok (.iconst 0, 1) := by decide +kernel
theorem dX10_way_23 : decode cX10_way 23 = .ok (.invokevirtual 105, 3) := by decide +kernel
theorem dX10_way_26 : decode cX10_way 26 = .ok (.ifCond .eq 5, 3) := by decide +kernel
theorem dX10_way_29 : decode cX10_way 29 = .ok (.iconst 0, 1) := by decide +kernel
theorem dX10_way_30 : decode cX10_way 30 = .ok (.ireturn, 1) := by decide +kernel
theorem dX10_way_31 : decode cX10_way 31 = .ok (.iload_n 2, 1) := by decide +kernel
theorem dX10_way_32 : decode cX10_way 32 = .ok (.iconst 4, 1) := by decide +kernel
theorem dX10_way_33 : decode cX10_way 33 = .ok (.if_icmp .ne 10, 3) := by decide +kernel
theorem dX10_way_36 : decode cX10_way 36 = .ok (.aload_n 0, 1) := by decide +kernel
theorem dX10_way_37 : decode cX10_way 37 = .ok (.getfield 25, 3) := by decide +kernel
theorem dX10_way_40 : decode cX10_way 40 = .ok (.iload_n 1, 1) := by decide +kernel
theorem dX10_way_41 : decode cX10_way 41 = .ok (.iaload, 1) := by decide +kernel
theorem dX10_way_42 : decode cX10_way 42 = .ok (.ireturn, 1) := by decide +kernel
theorem dX10_way_43 : decode cX10_way 43 = .ok (.aload_n 0, 1) := by decide +kernel
theorem dX10_way_44 : decode cX10_way 44 = .ok (.getfield 7, 3) := by decide +kernel
theorem dX10_way_47 : decode cX10_way 47 = .ok (.iload_n 1, 1) := by decide +kernel
theorem dX10_way_48 : decode cX10_way 48 = .ok (.iaload, 1) := by decide +kernel
theorem dX10_way_49 : decode cX10_way 49 = .ok (.ifCond .eq 5, 3) := by decide +kernel
theorem dX10_way_52 : decode cX10_way 52 = .ok (.iconst (-1), 1) := by decide +kernel
theorem dX10_way_53 : decode cX10_way 53 = .ok (.ireturn, 1) := by decide +kernel
theorem dX10_way_54 : decode cX10_way 54 = .ok (.iload_n 2, 1) := by decide +kernel
theorem dX10_way_55 : decode cX10_way 55 = .ok (.ifCond .ne 12, 3) := by decide +kernel
theorem dX10_way_58 : decode cX10_way 58 = .ok (.aload_n 0, 1) := by decide +kernel
theorem dX10_way_59 : decode cX10_way 59 = .ok (.getfield 13, 3) := by decide +kernel
theorem dX10_way_62 : decode cX10_way 62 = .ok (.iload_n 1, 1) := by decide +kernel
theorem dX10_way_63 : decode cX10_way 63 = .ok (.iaload, 1) := by decide +kernel
theorem dX10_way_64 : decode cX10_way 64 = .ok (.goto 37, 3) := by decide +kernel
theorem dX10_way_67 : decode cX10_way 67 = .ok (.iload_n 2, 1) := by decide +kernel
theorem dX10_way_68 : decode cX10_way 68 = .ok (.iconst 1, 1) := by decide +kernel
theorem dX10_way_69 : decode cX10_way 69 = .ok (.if_icmp .ne 12, 3) := by decide +kernel
theorem dX10_way_72 : decode cX10_way 72 = .ok (.aload_n 0, 1) := by decide +kernel
theorem dX10_way_73 : decode cX10_way 73 = .ok (.getfield 16, 3) := by decide +kernel
theorem dX10_way_76 : decode cX10_way 76 = .ok (.iload_n 1, 1) := by decide +kernel
theorem dX10_way_77 : decode cX10_way 77 = .ok (.iaload, 1) := by decide +kernel
theorem dX10_way_78 : decode cX10_way 78 = .ok (.goto 23, 3) := by decide +kernel
theorem dX10_way_81 : decode cX10_way 81 = .ok (.iload_n 2, 1) := by decide +kernel
theorem dX10_way_82 : decode cX10_way 82 = .ok (.iconst 2, 1) := by decide +kernel
theorem dX10_way_83 : decode cX10_way 83 = .ok (.if_icmp .ne 12, 3) := by decide +kernel
theorem dX10_way_86 : decode cX10_way 86 = .ok (.aload_n 0, 1) := by decide +kernel
theorem dX10_way_87 : decode cX10_way 87 = .ok (.getfield 19, 3) := by decide +kernel
theorem dX10_way_90 : decode cX10_way 90 = .ok (.iload_n 1, 1) := by decide +kernel
theorem dX10_way_91 : decode cX10_way 91 = .ok (.iaload, 1) := by decide +kernel
theorem dX10_way_92 : decode cX10_way 92 = .ok (.goto 9, 3) := by decide +kernel
theorem dX10_way_95 : decode cX10_way 95 = .ok (.aload_n 0, 1) := by decide +kernel
theorem dX10_way_96 : decode cX10_way 96 = .ok (.getfield 22, 3) := by decide +kernel
theorem dX10_way_99 : decode cX10_way 99 = .ok (.iload_n 1, 1) := by decide +kernel
theorem dX10_way_100 : decode cX10_way 100 = .ok (.iaload, 1) := by decide +kernel
theorem dX10_way_101 : decode cX10_way 101 = .ok (.ireturn, 1) := by decide +kernel
theorem dX10_about_0 : decode cX10_about 0 = .ok (.aload_n 0, 1) := by decide +kernel
theorem dX10_about_1 : decode cX10_about 1 = .ok (.iload_n 1, 1) := by decide +kernel
theorem dX10_about_2 : decode cX10_about 2 = .ok (.ifCond .lt 8, 3) := by decide +kernel
theorem dX10_about_5 : decode cX10_about 5 = .ok (.iload_n 1, 1) := by decide +kernel
theorem dX10_about_6 : decode cX10_about 6 = .ok (.iconst 3, 1) := by decide +kernel
theorem dX10_about_7 : decode cX10_about 7 = .ok (.if_icmp .le 7, 3) := by decide +kernel
theorem dX10_about_10 : decode cX10_about 10 = .ok (.iconst 1, 1) := by decide +kernel
theorem dX10_about_11 : decode cX10_about 11 = .ok (.goto 4, 3) := by decide +kernel
theorem dX10_about_14 : decode cX10_about 14 = .ok (.iconst 0, 1) := by decide +kernel
theorem dX10_about_15 : decode cX10_about 15 = .ok (.invokevirtual 105, 3) := by decide +kernel
theorem dX10_about_18 : decode cX10_about 18 = .ok (.ifCond .eq 5, 3) := by decide +kernel
theorem dX10_about_21 : decode cX10_about 21 = .ok (.iconst 0, 1) := by decide +kernel
theorem dX10_about_22 : decode cX10_about 22 = .ok (.ireturn, 1) := by decide +kernel
theorem dX10_about_23 : decode cX10_about 23 = .ok (.iload_n 1, 1) := by decide +kernel
theorem dX10_about_24 : decode cX10_about 24 = .ok (.ifCond .ne 10, 3) := by decide +kernel
theorem dX10_about_27 : decode cX10_about 27 = .ok (.aload_n 0, 1) := by decide +kernel
theorem dX10_about_28 : decode cX10_about 28 = .ok (.getfield 102, 3) := by decide +kernel
theorem dX10_about_31 : decode cX10_about 31 = .ok (.goto 31, 3) := by decide +kernel
theorem dX10_about_34 : decode cX10_about 34 = .ok (.iload_n 1, 1) := by decide +kernel
theorem dX10_about_35 : decode cX10_about 35 = .ok (.iconst 1, 1) := by decide +kernel
theorem dX10_about_36 : decode cX10_about 36 = .ok (.if_icmp .ne 10, 3) := by decide +kernel
theorem dX10_about_39 : decode cX10_about 39 = .ok (.aload_n 0, 1) := by decide +kernel
theorem dX10_about_40 : decode cX10_about 40 = .ok (.getfield 120, 3) := by decide +kernel
theorem dX10_about_43 : decode cX10_about 43 = .ok (.goto 19, 3) := by decide +kernel
theorem dX10_about_46 : decode cX10_about 46 = .ok (.iload_n 1, 1) := by decide +kernel
theorem dX10_about_47 : decode cX10_about 47 = .ok (.iconst 2, 1) := by decide +kernel
theorem dX10_about_48 : decode cX10_about 48 = .ok (.if_icmp .ne 10, 3) := by decide +kernel
theorem dX10_about_51 : decode cX10_about 51 = .ok (.aload_n 0, 1) := by decide +kernel
theorem dX10_about_52 : decode cX10_about 52 = .ok (.getfield 168, 3) := by decide +kernel
theorem dX10_about_55 : decode cX10_about 55 = .ok (.goto 7, 3) := by decide +kernel
theorem dX10_about_58 : decode cX10_about 58 = .ok (.aload_n 0, 1) := by decide +kernel
theorem dX10_about_59 : decode cX10_about 59 = .ok (.getfield 186, 3) := by decide +kernel
theorem dX10_about_62 : decode cX10_about 62 = .ok (.ireturn, 1) := by decide +kernel
theorem dJ9_max_7cf53_0 : decode cJ9_max_7cf53 0 = .ok (.iload_n 0, 1) := by decide +kernel
theorem dJ9_max_7cf53_1 : decode cJ9_max_7cf53 1 = .ok (.iload_n 1, 1) := by decide +kernel
theorem dJ9_max_7cf53_2 : decode cJ9_max_7cf53 2 = .ok (.if_icmp .lt 7, 3) := by decide +kernel
theorem dJ9_max_7cf53_5 : decode cJ9_max_7cf53 5 = .ok (.iload_n 0, 1) := by decide +kernel
theorem dJ9_max_7cf53_6 : decode cJ9_max_7cf53 6 = .ok (.goto 4, 3) := by decide +kernel
theorem dJ9_max_7cf53_9 : decode cJ9_max_7cf53 9 = .ok (.iload_n 1, 1) := by decide +kernel
theorem dJ9_max_7cf53_10 : decode cJ9_max_7cf53 10 = .ok (.ireturn, 1) := by decide +kernel
theorem dJ9_min_7cf53_0 : decode cJ9_min_7cf53 0 = .ok (.iload_n 0, 1) := by decide +kernel
theorem dJ9_min_7cf53_1 : decode cJ9_min_7cf53 1 = .ok (.iload_n 1, 1) := by decide +kernel
theorem dJ9_min_7cf53_2 : decode cJ9_min_7cf53 2 = .ok (.if_icmp .gt 7, 3) := by decide +kernel
theorem dJ9_min_7cf53_5 : decode cJ9_min_7cf53 5 = .ok (.iload_n 0, 1) := by decide +kernel
theorem dJ9_min_7cf53_6 : decode cJ9_min_7cf53 6 = .ok (.goto 4, 3) := by decide +kernel
theorem dJ9_min_7cf53_9 : decode cJ9_min_7cf53 9 = .ok (.iload_n 1, 1) := by decide +kernel
theorem dJ9_min_7cf53_10 : decode cJ9_min_7cf53 10 = .ok (.ireturn, 1) := by decide +kernel
theorem dL_coding_0 : decode cL_coding 0 = .ok (.aload 5, 2) := by decide +kernel
theorem dL_coding_2 : decode cL_coding 2 = .ok (.iconst 0, 1) := by decide +kernel
theorem dL_coding_3 : decode cL_coding 3 = .ok (.aload_n 0, 1) := by decide +kernel
theorem dL_coding_4 : decode cL_coding 4 = .ok (.iload_n 1, 1) := by decide +kernel
theorem dL_coding_5 : decode cL_coding 5 = .ok (.iload_n 2, 1) := by decide +kernel
theorem dL_coding_6 : decode cL_coding 6 = .ok (.iload_n 3, 1) := by decide +kernel
theorem dL_coding_7 : decode cL_coding 7 = .ok (.iload 4, 2) := by decide +kernel
theorem dL_coding_9 : decode cL_coding 9 = .ok (.invokevirtual 7, 3) := by decide +kernel
theorem dL_coding_12 : decode cL_coding 12 = .ok (.i2l, 1) := by decide +kernel
theorem dL_coding_13 : decode cL_coding 13 = .ok (.lastore, 1) := by decide +kernel
theorem dL_coding_14 : decode cL_coding 14 = .ok (.goto 11, 3) := by decide +kernel
theorem dL_coding_17 : decode cL_coding 17 = .ok (.astore 6, 2) := by decide +kernel
theorem dL_coding_19 : decode cL_coding 19 = .ok (.iconst 1, 1) := by decide +kernel
theorem dL_coding_20 : decode cL_coding 20 = .ok (.ireturn, 1) := by decide +kernel
theorem dL_coding_21 : decode cL_coding 21 = .ok (.astore 6, 2) := by decide +kernel
theorem dL_coding_23 : decode cL_coding 23 = .ok (.iconst 2, 1) := by decide +kernel
theorem dL_coding_24 : decode cL_coding 24 = .ok (.ireturn, 1) := by decide +kernel
theorem dL_coding_25 : decode cL_coding 25 = .ok (.iconst 0, 1) := by decide +kernel
theorem dL_coding_26 : decode cL_coding 26 = .ok (.ireturn, 1) := by decide +kernel
theorem dL_run_0 : decode cL_run 0 = .ok (.aload 4, 2) := by decide +kernel
theorem dL_run_2 : decode cL_run 2 = .ok (.iconst 0, 1) := by decide +kernel
theorem dL_run_3 : decode cL_run 3 = .ok (.aload_n 0, 1) := by decide +kernel
theorem dL_run_4 : decode cL_run 4 = .ok (.iload_n 1, 1) := by decide +kernel
theorem dL_run_5 : decode cL_run 5 = .ok (.iload_n 2, 1) := by decide +kernel
theorem dL_run_6 : decode cL_run 6 = .ok (.iload_n 3, 1) := by decide +kernel
theorem dL_run_7 : decode cL_run 7 = .ok (.invokevirtual 17, 3) := by decide +kernel
theorem dL_run_10 : decode cL_run 10 = .ok (.i2l, 1) := by decide +kernel
theorem dL_run_11 : decode cL_run 11 = .ok (.lastore, 1) := by decide +kernel
theorem dL_run_12 : decode cL_run 12 = .ok (.goto 11, 3) := by decide +kernel
theorem dL_run_15 : decode cL_run 15 = .ok (.astore 5, 2) := by decide +kernel
theorem dL_run_17 : decode cL_run 17 = .ok (.iconst 1, 1) := by decide +kernel
theorem dL_run_18 : decode cL_run 18 = .ok (.ireturn, 1) := by decide +kernel
theorem dL_run_19 : decode cL_run 19 = .ok (.astore 5, 2) := by decide +kernel
theorem dL_run_21 : decode cL_run 21 = .ok (.iconst 2, 1) := by decide +kernel
theorem dL_run_22 : decode cL_run 22 = .ok (.ireturn, 1) := by decide +kernel
theorem dL_run_23 : decode cL_run 23 = .ok (.iconst 0, 1) := by decide +kernel
theorem dL_run_24 : decode cL_run 24 = .ok (.ireturn, 1) := by decide +kernel
theorem dL_popular_0 : decode cL_popular 0 = .ok (.aload 5, 2) := by decide +kernel
theorem dL_popular_2 : decode cL_popular 2 = .ok (.iconst 0, 1) := by decide +kernel
theorem dL_popular_3 : decode cL_popular 3 = .ok (.aload_n 0, 1) := by decide +kernel
theorem dL_popular_4 : decode cL_popular 4 = .ok (.iload_n 1, 1) := by decide +kernel
theorem dL_popular_5 : decode cL_popular 5 = .ok (.iload_n 2, 1) := by decide +kernel
theorem dL_popular_6 : decode cL_popular 6 = .ok (.iload_n 3, 1) := by decide +kernel
theorem dL_popular_7 : decode cL_popular 7 = .ok (.iload 4, 2) := by decide +kernel
theorem dL_popular_9 : decode cL_popular 9 = .ok (.invokevirtual 21, 3) := by decide +kernel
theorem dL_popular_12 : decode cL_popular 12 = .ok (.i2l, 1) := by decide +kernel
theorem dL_popular_13 : decode cL_popular 13 = .ok (.lastore, 1) := by decide +kernel
theorem dL_popular_14 : decode cL_popular 14 = .ok (.goto 11, 3) := by decide +kernel
theorem dL_popular_17 : decode cL_popular 17 = .ok (.astore 6, 2) := by decide +kernel
theorem dL_popular_19 : decode cL_popular 19 = .ok (.iconst 1, 1) := by decide +kernel
theorem dL_popular_20 : decode cL_popular 20 = .ok (.ireturn, 1) := by decide +kernel
theorem dL_popular_21 : decode cL_popular 21 = .ok (.astore 6, 2) := by decide +kernel
theorem dL_popular_23 : decode cL_popular 23 = .ok (.iconst 2, 1) := by decide +kernel
theorem dL_popular_24 : decode cL_popular 24 = .ok (.ireturn, 1) := by decide +kernel
theorem dL_popular_25 : decode cL_popular 25 = .ok (.iconst 0, 1) := by decide +kernel
theorem dL_popular_26 : decode cL_popular 26 = .ok (.ireturn, 1) := by decide +kernel
theorem dL_number_0 : decode cL_number 0 = .ok (.aload_n 2, 1) := by decide +kernel
end
section
theorem dL_number_1 : decode cL_number 1 = .ok (.iconst 0, 1) := by decide +kernel
theorem dL_number_2 : decode cL_number 2 = .ok (.aload_n 0, 1) := by decide +kernel
theorem dL_number_3 : decode cL_number 3 = .ok (.iload_n 1, 1) := by decide +kernel
theorem dL_number_4 : decode cL_number 4 = .ok (.invokevirtual 24, 3) := by decide +kernel
theorem dL_number_7 : decode cL_number 7 = .ok (.i2l, 1) := by decide +kernel
theorem dL_number_8 : decode cL_number 8 = .ok (.lastore, 1) := by decide +kernel
theorem dL_number_9 : decode cL_number 9 = .ok (.goto 6, 3) := by decide +kernel
theorem dL_number_12 : decode cL_number 12 = .ok (.astore_n 3, 1) := by decide +kernel
theorem dL_number_13 : decode cL_number 13 = .ok (.iconst 1, 1) := by decide +kernel
theorem dL_number_14 : decode cL_number 14 = .ok (.ireturn, 1) := by decide +kernel
theorem dL_number_15 : decode cL_number 15 = .ok (.iconst 0, 1) := by decide +kernel
theorem dL_number_16 : decode cL_number 16 = .ok (.ireturn, 1) := by decide +kernel
theorem dL_cost_0 : decode cL_cost 0 = .ok (.aload_n 2, 1) := by decide +kernel
theorem dL_cost_1 : decode cL_cost 1 = .ok (.iconst 0, 1) := by decide +kernel
theorem dL_cost_2 : decode cL_cost 2 = .ok (.aload_n 0, 1) := by decide +kernel
theorem dL_cost_3 : decode cL_cost 3 = .ok (.iload_n 1, 1) := by decide +kernel
theorem dL_cost_4 : decode cL_cost 4 = .ok (.invokevirtual 28, 3) := by decide +kernel
theorem dL_cost_7 : decode cL_cost 7 = .ok (.i2l, 1) := by decide +kernel
theorem dL_cost_8 : decode cL_cost 8 = .ok (.lastore, 1) := by decide +kernel
theorem dL_cost_9 : decode cL_cost 9 = .ok (.goto 6, 3) := by decide +kernel
theorem dL_cost_12 : decode cL_cost 12 = .ok (.astore_n 3, 1) := by decide +kernel
theorem dL_cost_13 : decode cL_cost 13 = .ok (.iconst 1, 1) := by decide +kernel
theorem dL_cost_14 : decode cL_cost 14 = .ok (.ireturn, 1) := by decide +kernel
theorem dL_cost_15 : decode cL_cost 15 = .ok (.iconst 0, 1) := by decide +kernel
theorem dL_cost_16 : decode cL_cost 16 = .ok (.ireturn, 1) := by decide +kernel
theorem dL_pack_0 : decode cL_pack 0 = .ok (.aload_n 2, 1) := by decide +kernel
theorem dL_pack_1 : decode cL_pack 1 = .ok (.iconst 0, 1) := by decide +kernel
theorem dL_pack_2 : decode cL_pack 2 = .ok (.aload_n 0, 1) := by decide +kernel
theorem dL_pack_3 : decode cL_pack 3 = .ok (.iload_n 1, 1) := by decide +kernel
theorem dL_pack_4 : decode cL_pack 4 = .ok (.invokevirtual 31, 3) := by decide +kernel
theorem dL_pack_7 : decode cL_pack 7 = .ok (.i2l, 1) := by decide +kernel
theorem dL_pack_8 : decode cL_pack 8 = .ok (.lastore, 1) := by decide +kernel
theorem dL_pack_9 : decode cL_pack 9 = .ok (.goto 9, 3) := by decide +kernel
theorem dL_pack_12 : decode cL_pack 12 = .ok (.astore_n 3, 1) := by decide +kernel
theorem dL_pack_13 : decode cL_pack 13 = .ok (.iconst 1, 1) := by decide +kernel
theorem dL_pack_14 : decode cL_pack 14 = .ok (.ireturn, 1) := by decide +kernel
theorem dL_pack_15 : decode cL_pack 15 = .ok (.astore_n 3, 1) := by decide +kernel
theorem dL_pack_16 : decode cL_pack 16 = .ok (.iconst 2, 1) := by decide +kernel
theorem dL_pack_17 : decode cL_pack 17 = .ok (.ireturn, 1) := by decide +kernel
theorem dL_pack_18 : decode cL_pack 18 = .ok (.iconst 0, 1) := by decide +kernel
theorem dL_pack_19 : decode cL_pack 19 = .ok (.ireturn, 1) := by decide +kernel
theorem dL_unpack_0 : decode cL_unpack 0 = .ok (.aload_n 3, 1) := by decide +kernel
theorem dL_unpack_1 : decode cL_unpack 1 = .ok (.iconst 0, 1) := by decide +kernel
theorem dL_unpack_2 : decode cL_unpack 2 = .ok (.aload_n 0, 1) := by decide +kernel
theorem dL_unpack_3 : decode cL_unpack 3 = .ok (.iload_n 1, 1) := by decide +kernel
theorem dL_unpack_4 : decode cL_unpack 4 = .ok (.iload_n 2, 1) := by decide +kernel
theorem dL_unpack_5 : decode cL_unpack 5 = .ok (.invokevirtual 34, 3) := by decide +kernel
theorem dL_unpack_8 : decode cL_unpack 8 = .ok (.i2l, 1) := by decide +kernel
theorem dL_unpack_9 : decode cL_unpack 9 = .ok (.lastore, 1) := by decide +kernel
theorem dL_unpack_10 : decode cL_unpack 10 = .ok (.goto 7, 3) := by decide +kernel
theorem dL_unpack_13 : decode cL_unpack 13 = .ok (.astore 4, 2) := by decide +kernel
theorem dL_unpack_15 : decode cL_unpack 15 = .ok (.iconst 1, 1) := by decide +kernel
theorem dL_unpack_16 : decode cL_unpack 16 = .ok (.ireturn, 1) := by decide +kernel
theorem dL_unpack_17 : decode cL_unpack 17 = .ok (.iconst 0, 1) := by decide +kernel
theorem dL_unpack_18 : decode cL_unpack 18 = .ok (.ireturn, 1) := by decide +kernel
theorem dL_best_0 : decode cL_best 0 = .ok (.aload_n 3, 1) := by decide +kernel
theorem dL_best_1 : decode cL_best 1 = .ok (.iconst 0, 1) := by decide +kernel
theorem dL_best_2 : decode cL_best 2 = .ok (.aload_n 0, 1) := by decide +kernel
theorem dL_best_3 : decode cL_best 3 = .ok (.iload_n 1, 1) := by decide +kernel
theorem dL_best_4 : decode cL_best 4 = .ok (.iload_n 2, 1) := by decide +kernel
theorem dL_best_5 : decode cL_best 5 = .ok (.invokevirtual 38, 3) := by decide +kernel
theorem dL_best_8 : decode cL_best 8 = .ok (.i2l, 1) := by decide +kernel
theorem dL_best_9 : decode cL_best 9 = .ok (.lastore, 1) := by decide +kernel
theorem dL_best_10 : decode cL_best 10 = .ok (.goto 7, 3) := by decide +kernel
theorem dL_best_13 : decode cL_best 13 = .ok (.astore 4, 2) := by decide +kernel
theorem dL_best_15 : decode cL_best 15 = .ok (.iconst 1, 1) := by decide +kernel
theorem dL_best_16 : decode cL_best 16 = .ok (.ireturn, 1) := by decide +kernel
theorem dL_best_17 : decode cL_best 17 = .ok (.iconst 0, 1) := by decide +kernel
theorem dL_best_18 : decode cL_best 18 = .ok (.ireturn, 1) := by decide +kernel
theorem dL_chosen_0 : decode cL_chosen 0 = .ok (.aload_n 2, 1) := by decide +kernel
theorem dL_chosen_1 : decode cL_chosen 1 = .ok (.iconst 0, 1) := by decide +kernel
theorem dL_chosen_2 : decode cL_chosen 2 = .ok (.aload_n 0, 1) := by decide +kernel
theorem dL_chosen_3 : decode cL_chosen 3 = .ok (.iload_n 1, 1) := by decide +kernel
theorem dL_chosen_4 : decode cL_chosen 4 = .ok (.invokevirtual 41, 3) := by decide +kernel
theorem dL_chosen_7 : decode cL_chosen 7 = .ok (.i2l, 1) := by decide +kernel
theorem dL_chosen_8 : decode cL_chosen 8 = .ok (.lastore, 1) := by decide +kernel
theorem dL_chosen_9 : decode cL_chosen 9 = .ok (.goto 6, 3) := by decide +kernel
theorem dL_chosen_12 : decode cL_chosen 12 = .ok (.astore_n 3, 1) := by decide +kernel
theorem dL_chosen_13 : decode cL_chosen 13 = .ok (.iconst 1, 1) := by decide +kernel
theorem dL_chosen_14 : decode cL_chosen 14 = .ok (.ireturn, 1) := by decide +kernel
theorem dL_chosen_15 : decode cL_chosen 15 = .ok (.iconst 0, 1) := by decide +kernel
theorem dL_chosen_16 : decode cL_chosen 16 = .ok (.ireturn, 1) := by decide +kernel
theorem dL_feed_0 : decode cL_feed 0 = .ok (.aload_n 2, 1) := by decide +kernel
theorem dL_feed_1 : decode cL_feed 1 = .ok (.iconst 0, 1) := by decide +kernel
theorem dL_feed_2 : decode cL_feed 2 = .ok (.aload_n 0, 1) := by decide +kernel
theorem dL_feed_3 : decode cL_feed 3 = .ok (.iload_n 1, 1) := by decide +kernel
theorem dL_feed_4 : decode cL_feed 4 = .ok (.invokevirtual 44, 3) := by decide +kernel
theorem dL_feed_7 : decode cL_feed 7 = .ok (.i2l, 1) := by decide +kernel
theorem dL_feed_8 : decode cL_feed 8 = .ok (.lastore, 1) := by decide +kernel
theorem dL_feed_9 : decode cL_feed 9 = .ok (.goto 6, 3) := by decide +kernel
theorem dL_feed_12 : decode cL_feed 12 = .ok (.astore_n 3, 1) := by decide +kernel
theorem dL_feed_13 : decode cL_feed 13 = .ok (.iconst 1, 1) := by decide +kernel
theorem dL_feed_14 : decode cL_feed 14 = .ok (.ireturn, 1) := by decide +kernel
theorem dL_feed_15 : decode cL_feed 15 = .ok (.iconst 0, 1) := by decide +kernel
theorem dL_feed_16 : decode cL_feed 16 = .ok (.ireturn, 1) := by decide +kernel
theorem dL_end_0 : decode cL_end 0 = .ok (.aload_n 0, 1) := by decide +kernel
theorem dL_end_1 : decode cL_end 1 = .ok (.iload_n 1, 1) := by decide +kernel
theorem dL_end_2 : decode cL_end 2 = .ok (.invokevirtual 47, 3) := by decide +kernel
theorem dL_end_5 : decode cL_end 5 = .ok (.goto 6, 3) := by decide +kernel
theorem dL_end_8 : decode cL_end 8 = .ok (.astore_n 2, 1) := by decide +kernel
theorem dL_end_9 : decode cL_end 9 = .ok (.iconst 1, 1) := by decide +kernel
theorem dL_end_10 : decode cL_end 10 = .ok (.ireturn, 1) := by decide +kernel
theorem dL_end_11 : decode cL_end 11 = .ok (.iconst 0, 1) := by decide +kernel
theorem dL_end_12 : decode cL_end 12 = .ok (.ireturn, 1) := by decide +kernel
theorem dL_seek_0 : decode cL_seek 0 = .ok (.aload_n 2, 1) := by decide +kernel
theorem dL_seek_1 : decode cL_seek 1 = .ok (.iconst 0, 1) := by decide +kernel
theorem dL_seek_2 : decode cL_seek 2 = .ok (.aload_n 0, 1) := by decide +kernel
theorem dL_seek_3 : decode cL_seek 3 = .ok (.iload_n 1, 1) := by decide +kernel
theorem dL_seek_4 : decode cL_seek 4 = .ok (.invokevirtual 51, 3) := by decide +kernel
theorem dL_seek_7 : decode cL_seek 7 = .ok (.i2l, 1) := by decide +kernel
theorem dL_seek_8 : decode cL_seek 8 = .ok (.lastore, 1) := by decide +kernel
theorem dL_seek_9 : decode cL_seek 9 = .ok (.goto 6, 3) := by decide +kernel
theorem dL_seek_12 : decode cL_seek 12 = .ok (.astore_n 3, 1) := by decide +kernel
theorem dL_seek_13 : decode cL_seek 13 = .ok (.iconst 1, 1) := by decide +kernel
theorem dL_seek_14 : decode cL_seek 14 = .ok (.ireturn, 1) := by decide +kernel
theorem dL_seek_15 : decode cL_seek 15 = .ok (.iconst 0, 1) := by decide +kernel
theorem dL_seek_16 : decode cL_seek 16 = .ok (.ireturn, 1) := by decide +kernel
theorem dL_way_0 : decode cL_way 0 = .ok (.aload_n 3, 1) := by decide +kernel
theorem dL_way_1 : decode cL_way 1 = .ok (.iconst 0, 1) := by decide +kernel
theorem dL_way_2 : decode cL_way 2 = .ok (.aload_n 0, 1) := by decide +kernel
theorem dL_way_3 : decode cL_way 3 = .ok (.iload_n 1, 1) := by decide +kernel
theorem dL_way_4 : decode cL_way 4 = .ok (.iload_n 2, 1) := by decide +kernel
theorem dL_way_5 : decode cL_way 5 = .ok (.invokevirtual 54, 3) := by decide +kernel
theorem dL_way_8 : decode cL_way 8 = .ok (.i2l, 1) := by decide +kernel
theorem dL_way_9 : decode cL_way 9 = .ok (.lastore, 1) := by decide +kernel
theorem dL_way_10 : decode cL_way 10 = .ok (.goto 7, 3) := by decide +kernel
theorem dL_way_13 : decode cL_way 13 = .ok (.astore 4, 2) := by decide +kernel
theorem dL_way_15 : decode cL_way 15 = .ok (.iconst 1, 1) := by decide +kernel
theorem dL_way_16 : decode cL_way 16 = .ok (.ireturn, 1) := by decide +kernel
theorem dL_way_17 : decode cL_way 17 = .ok (.iconst 0, 1) := by decide +kernel
theorem dL_way_18 : decode cL_way 18 = .ok (.ireturn, 1) := by decide +kernel
theorem dL_about_0 : decode cL_about 0 = .ok (.aload_n 2, 1) := by decide +kernel
theorem dL_about_1 : decode cL_about 1 = .ok (.iconst 0, 1) := by decide +kernel
theorem dL_about_2 : decode cL_about 2 = .ok (.aload_n 0, 1) := by decide +kernel
theorem dL_about_3 : decode cL_about 3 = .ok (.iload_n 1, 1) := by decide +kernel
theorem dL_about_4 : decode cL_about 4 = .ok (.invokevirtual 57, 3) := by decide +kernel
theorem dL_about_7 : decode cL_about 7 = .ok (.i2l, 1) := by decide +kernel
theorem dL_about_8 : decode cL_about 8 = .ok (.lastore, 1) := by decide +kernel
theorem dL_about_9 : decode cL_about 9 = .ok (.goto 6, 3) := by decide +kernel
theorem dL_about_12 : decode cL_about 12 = .ok (.astore_n 3, 1) := by decide +kernel
theorem dL_about_13 : decode cL_about 13 = .ok (.iconst 1, 1) := by decide +kernel
theorem dL_about_14 : decode cL_about 14 = .ok (.ireturn, 1) := by decide +kernel
theorem dL_about_15 : decode cL_about 15 = .ok (.iconst 0, 1) := by decide +kernel
theorem dL_about_16 : decode cL_about 16 = .ok (.ireturn, 1) := by decide +kernel
theorem dL_law_0 : decode cL_law 0 = .ok (.new 8, 3) := by decide +kernel
theorem dL_law_3 : decode cL_law 3 = .ok (.dup, 1) := by decide +kernel
theorem dL_law_4 : decode cL_law 4 = .ok (.invokespecial 60, 3) := by decide +kernel
theorem dL_law_7 : decode cL_law 7 = .ok (.astore_n 1, 1) := by decide +kernel
theorem dL_law_8 : decode cL_law 8 = .ok (.new 61, 3) := by decide +kernel
theorem dL_law_11 : decode cL_law 11 = .ok (.dup, 1) := by decide +kernel
theorem dL_law_12 : decode cL_law 12 = .ok (.invokespecial 63, 3) := by decide +kernel
theorem dL_law_15 : decode cL_law 15 = .ok (.astore_n 2, 1) := by decide +kernel
theorem dL_law_16 : decode cL_law 16 = .ok (.iconst 1, 1) := by decide +kernel
theorem dL_law_17 : decode cL_law 17 = .ok (.newarray .long, 2) := by decide +kernel
theorem dL_law_19 : decode cL_law 19 = .ok (.astore_n 3, 1) := by decide +kernel
theorem dL_law_20 : decode cL_law 20 = .ok (.iconst 0, 1) := by decide +kernel
theorem dL_law_21 : decode cL_law 21 = .ok (.istore 4, 2) := by decide +kernel
theorem dL_law_23 : decode cL_law 23 = .ok (.iload 4, 2) := by decide +kernel
theorem dL_law_25 : decode cL_law 25 = .ok (.aload_n 0, 1) := by decide +kernel
theorem dL_law_26 : decode cL_law 26 = .ok (.arraylength, 1) := by decide +kernel
theorem dL_law_27 : decode cL_law 27 = .ok (.iconst 5, 1) := by decide +kernel
theorem dL_law_28 : decode cL_law 28 = .ok (.isub, 1) := by decide +kernel
theorem dL_law_29 : decode cL_law 29 = .ok (.if_icmp .gt 1090, 3) := by decide +kernel
theorem dL_law_32 : decode cL_law 32 = .ok (.aload_n 0, 1) := by decide +kernel
theorem dL_law_33 : decode cL_law 33 = .ok (.iload 4, 2) := by decide +kernel
theorem dL_law_35 : decode cL_law 35 = .ok (.iaload, 1) := by decide +kernel
theorem dL_law_36 : decode cL_law 36 = .ok (.bipush 31, 2) := by decide +kernel
theorem dL_law_38 : decode cL_law 38 = .ok (.iand, 1) := by decide +kernel
theorem dL_law_39 : decode cL_law 39 = .ok (.tableswitch 1074 0 18 #[89, 181, 261, 353, 409, 422, 447, 503, 559, 627, 640, 708, 721, 777, 833, 869, 925, 950, 1018], 89) := by decide +kernel
theorem dL_law_128 : decode cL_law 128 = .ok (.aload_n 1, 1) := by decide +kernel
theorem dL_law_129 : decode cL_law 129 = .ok (.aload_n 0, 1) := by decide +kernel
theorem dL_law_130 : decode cL_law 130 = .ok (.iload 4, 2) := by decide +kernel
theorem dL_law_132 : decode cL_law 132 = .ok (.iconst 1, 1) := by decide +kernel
theorem dL_law_133 : decode cL_law 133 = .ok (.iadd, 1) := by decide +kernel
theorem dL_law_134 : decode cL_law 134 = .ok (.iaload, 1) := by decide +kernel
theorem dL_law_135 : decode cL_law 135 = .ok (.aload_n 0, 1) := by decide +kernel
theorem dL_law_136 : decode cL_law 136 = .ok (.iload 4, 2) := by decide +kernel
theorem dL_law_138 : decode cL_law 138 = .ok (.iconst 2, 1) := by decide +kernel
theorem dL_law_139 : decode cL_law 139 = .ok (.iadd, 1) := by decide +kernel
theorem dL_law_140 : decode cL_law 140 = .ok (.iaload, 1) := by decide +kernel
theorem dL_law_141 : decode cL_law 141 = .ok (.aload_n 0, 1) := by decide +kernel
theorem dL_law_142 : decode cL_law 142 = .ok (.iload 4, 2) := by decide +kernel
theorem dL_law_144 : decode cL_law 144 = .ok (.iconst 3, 1) := by decide +kernel
theorem dL_law_145 : decode cL_law 145 = .ok (.iadd, 1) := by decide +kernel
theorem dL_law_146 : decode cL_law 146 = .ok (.iaload, 1) := by decide +kernel
theorem dL_law_147 : decode cL_law 147 = .ok (.aload_n 0, 1) := by decide +kernel
theorem dL_law_148 : decode cL_law 148 = .ok (.iload 4, 2) := by decide +kernel
theorem dL_law_150 : decode cL_law 150 = .ok (.iconst 4, 1) := by decide +kernel
theorem dL_law_151 : decode cL_law 151 = .ok (.iadd, 1) := by decide +kernel
theorem dL_law_152 : decode cL_law 152 = .ok (.iaload, 1) := by decide +kernel
theorem dL_law_153 : decode cL_law 153 = .ok (.aload_n 3, 1) := by decide +kernel
theorem dL_law_154 : decode cL_law 154 = .ok (.invokestatic 64, 3) := by decide +kernel
theorem dL_law_157 : decode cL_law 157 = .ok (.istore 5, 2) := by decide +kernel
theorem dL_law_159 : decode cL_law 159 = .ok (.aload_n 2, 1) := by decide +kernel
theorem dL_law_160 : decode cL_law 160 = .ok (.aload_n 0, 1) := by decide +kernel
theorem dL_law_161 : decode cL_law 161 = .ok (.iload 4, 2) := by decide +kernel
theorem dL_law_163 : decode cL_law 163 = .ok (.iconst 1, 1) := by decide +kernel
theorem dL_law_164 : decode cL_law 164 = .ok (.iadd, 1) := by decide +kernel
theorem dL_law_165 : decode cL_law 165 = .ok (.iaload, 1) := by decide +kernel
theorem dL_law_166 : decode cL_law 166 = .ok (.aload_n 0, 1) := by decide +kernel
theorem dL_law_167 : decode cL_law 167 = .ok (.iload 4, 2) := by decide +kernel
theorem dL_law_169 : decode cL_law 169 = .ok (.iconst 2, 1) := by decide +kernel
theorem dL_law_170 : decode cL_law 170 = .ok (.iadd, 1) := by decide +kernel
theorem dL_law_171 : decode cL_law 171 = .ok (.iaload, 1) := by decide +kernel
theorem dL_law_172 : decode cL_law 172 = .ok (.aload_n 0, 1) := by decide +kernel
theorem dL_law_173 : decode cL_law 173 = .ok (.iload 4, 2) := by decide +kernel
theorem dL_law_175 : decode cL_law 175 = .ok (.iconst 3, 1) := by decide +kernel
theorem dL_law_176 : decode cL_law 176 = .ok (.iadd, 1) := by decide +kernel
theorem dL_law_177 : decode cL_law 177 = .ok (.iaload, 1) := by decide +kernel
theorem dL_law_178 : decode cL_law 178 = .ok (.aload_n 0, 1) := by decide +kernel
theorem dL_law_179 : decode cL_law 179 = .ok (.iload 4, 2) := by decide +kernel
theorem dL_law_181 : decode cL_law 181 = .ok (.iconst 4, 1) := by decide +kernel
theorem dL_law_182 : decode cL_law 182 = .ok (.iadd, 1) := by decide +kernel
theorem dL_law_183 : decode cL_law 183 = .ok (.iaload, 1) := by decide +kernel
theorem dL_law_184 : decode cL_law 184 = .ok (.invokevirtual 69, 3) := by decide +kernel
theorem dL_law_187 : decode cL_law 187 = .ok (.istore 6, 2) := by decide +kernel
theorem dL_law_189 : decode cL_law 189 = .ok (.aload_n 2, 1) := by decide +kernel
theorem dL_law_190 : decode cL_law 190 = .ok (.invokevirtual 70, 3) := by decide +kernel
theorem dL_law_193 : decode cL_law 193 = .ok (.iload 5, 2) := by decide +kernel
theorem dL_law_195 : decode cL_law 195 = .ok (.if_icmp .eq 5, 3) := by decide +kernel
theorem dL_law_198 : decode cL_law 198 = .ok (.iconst 0, 1) := by decide +kernel
theorem dL_law_199 : decode cL_law 199 = .ok (.ireturn, 1) := by decide +kernel
theorem dL_law_200 : decode cL_law 200 = .ok (.iload 5, 2) := by decide +kernel
theorem dL_law_202 : decode cL_law 202 = .ok (.ifCond .ne 15, 3) := by decide +kernel
theorem dL_law_205 : decode cL_law 205 = .ok (.aload_n 3, 1) := by decide +kernel
theorem dL_law_206 : decode cL_law 206 = .ok (.iconst 0, 1) := by decide +kernel
theorem dL_law_207 : decode cL_law 207 = .ok (.laload, 1) := by decide +kernel
theorem dL_law_208 : decode cL_law 208 = .ok (.iload 6, 2) := by decide +kernel
theorem dL_law_210 : decode cL_law 210 = .ok (.i2l, 1) := by decide +kernel
theorem dL_law_211 : decode cL_law 211 = .ok (.lcmp, 1) := by decide +kernel
theorem dL_law_212 : decode cL_law 212 = .ok (.ifCond .eq 5, 3) := by decide +kernel
theorem dL_law_215 : decode cL_law 215 = .ok (.iconst 0, 1) := by decide +kernel
theorem dL_law_216 : decode cL_law 216 = .ok (.ireturn, 1) := by decide +kernel
theorem dL_law_217 : decode cL_law 217 = .ok (.goto 896, 3) := by decide +kernel
theorem dL_law_220 : decode cL_law 220 = .ok (.aload_n 1, 1) := by decide +kernel
theorem dL_law_221 : decode cL_law 221 = .ok (.aload_n 0, 1) := by decide +kernel
theorem dL_law_222 : decode cL_law 222 = .ok (.iload 4, 2) := by decide +kernel
theorem dL_law_224 : decode cL_law 224 = .ok (.iconst 1, 1) := by decide +kernel
theorem dL_law_225 : decode cL_law 225 = .ok (.iadd, 1) := by decide +kernel
theorem dL_law_226 : decode cL_law 226 = .ok (.iaload, 1) := by decide +kernel
theorem dL_law_227 : decode cL_law 227 = .ok (.aload_n 0, 1) := by decide +kernel
theorem dL_law_228 : decode cL_law 228 = .ok (.iload 4, 2) := by decide +kernel
theorem dL_law_230 : decode cL_law 230 = .ok (.iconst 2, 1) := by decide +kernel
theorem dL_law_231 : decode cL_law 231 = .ok (.iadd, 1) := by decide +kernel
theorem dL_law_232 : decode cL_law 232 = .ok (.iaload, 1) := by decide +kernel
theorem dL_law_233 : decode cL_law 233 = .ok (.aload_n 0, 1) := by decide +kernel
theorem dL_law_234 : decode cL_law 234 = .ok (.iload 4, 2) := by decide +kernel
theorem dL_law_236 : decode cL_law 236 = .ok (.iconst 3, 1) := by decide +kernel
theorem dL_law_237 : decode cL_law 237 = .ok (.iadd, 1) := by decide +kernel
theorem dL_law_238 : decode cL_law 238 = .ok (.iaload, 1) := by decide +kernel
theorem dL_law_239 : decode cL_law 239 = .ok (.aload_n 3, 1) := by decide +kernel
theorem dL_law_240 : decode cL_law 240 = .ok (.invokestatic 74, 3) := by decide +kernel
theorem dL_law_243 : decode cL_law 243 = .ok (.istore 5, 2) := by decide +kernel
theorem dL_law_245 : decode cL_law 245 = .ok (.aload_n 2, 1) := by decide +kernel
theorem dL_law_246 : decode cL_law 246 = .ok (.aload_n 0, 1) := by decide +kernel
theorem dL_law_247 : decode cL_law 247 = .ok (.iload 4, 2) := by decide +kernel
theorem dL_law_249 : decode cL_law 249 = .ok (.iconst 1, 1) := by decide +kernel
theorem dL_law_250 : decode cL_law 250 = .ok (.iadd, 1) := by decide +kernel
theorem dL_law_251 : decode cL_law 251 = .ok (.iaload, 1) := by decide +kernel
theorem dL_law_252 : decode cL_law 252 = .ok (.aload_n 0, 1) := by decide +kernel
theorem dL_law_253 : decode cL_law 253 = .ok (.iload 4, 2) := by decide +kernel
theorem dL_law_255 : decode cL_law 255 = .ok (.iconst 2, 1) := by decide +kernel
theorem dL_law_256 : decode cL_law 256 = .ok (.iadd, 1) := by decide +kernel
theorem dL_law_257 : decode cL_law 257 = .ok (.iaload, 1) := by decide +kernel
theorem dL_law_258 : decode cL_law 258 = .ok (.aload_n 0, 1) := by decide +kernel
theorem dL_law_259 : decode cL_law 259 = .ok (.iload 4, 2) := by decide +kernel
theorem dL_law_261 : decode cL_law 261 = .ok (.iconst 3, 1) := by decide +kernel
theorem dL_law_262 : decode cL_law 262 = .ok (.iadd, 1) := by decide +kernel
theorem dL_law_263 : decode cL_law 263 = .ok (.iaload, 1) := by decide +kernel
theorem dL_law_264 : decode cL_law 264 = .ok (.invokevirtual 77, 3) := by decide +kernel
theorem dL_law_267 : decode cL_law 267 = .ok (.istore 6, 2) := by decide +kernel
theorem dL_law_269 : decode cL_law 269 = .ok (.aload_n 2, 1) := by decide +kernel
theorem dL_law_270 : decode cL_law 270 = .ok (.invokevirtual 70, 3) := by decide +kernel
theorem dL_law_273 : decode cL_law 273 = .ok (.iload 5, 2) := by decide +kernel
theorem dL_law_275 : decode cL_law 275 = .ok (.if_icmp .eq 5, 3) := by decide +kernel
theorem dL_law_278 : decode cL_law 278 = .ok (.iconst 0, 1) := by decide +kernel
theorem dL_law_279 : decode cL_law 279 = .ok (.ireturn, 1) := by decide +kernel
theorem dL_law_280 : decode cL_law 280 = .ok (.iload 5, 2) := by decide +kernel
theorem dL_law_282 : decode cL_law 282 = .ok (.ifCond .ne 15, 3) := by decide +kernel
theorem dL_law_285 : decode cL_law 285 = .ok (.aload_n 3, 1) := by decide +kernel
theorem dL_law_286 : decode cL_law 286 = .ok (.iconst 0, 1) := by decide +kernel
theorem dL_law_287 : decode cL_law 287 = .ok (.laload, 1) := by decide +kernel
theorem dL_law_288 : decode cL_law 288 = .ok (.iload 6, 2) := by decide +kernel
theorem dL_law_290 : decode cL_law 290 = .ok (.i2l, 1) := by decide +kernel
theorem dL_law_291 : decode cL_law 291 = .ok (.lcmp, 1) := by decide +kernel
theorem dL_law_292 : decode cL_law 292 = .ok (.ifCond .eq 5, 3) := by decide +kernel
theorem dL_law_295 : decode cL_law 295 = .ok (.iconst 0, 1) := by decide +kernel
theorem dL_law_296 : decode cL_law 296 = .ok (.ireturn, 1) := by decide +kernel
theorem dL_law_297 : decode cL_law 297 = .ok (.goto 816, 3) := by decide +kernel
theorem dL_law_300 : decode cL_law 300 = .ok (.aload_n 1, 1) := by decide +kernel
theorem dL_law_301 : decode cL_law 301 = .ok (.aload_n 0, 1) := by decide +kernel
theorem dL_law_302 : decode cL_law 302 = .ok (.iload 4, 2) := by decide +kernel
theorem dL_law_304 : decode cL_law 304 = .ok (.iconst 1, 1) := by decide +kernel
theorem dL_law_305 : decode cL_law 305 = .ok (.iadd, 1) := by decide +kernel
theorem dL_law_306 : decode cL_law 306 = .ok (.iaload, 1) := by decide +kernel
theorem dL_law_307 : decode cL_law 307 = .ok (.aload_n 0, 1) := by decide +kernel
theorem dL_law_308 : decode cL_law 308 = .ok (.iload 4, 2) := by decide +kernel
theorem dL_law_310 : decode cL_law 310 = .ok (.iconst 2, 1) := by decide +kernel
theorem dL_law_311 : decode cL_law 311 = .ok (.iadd, 1) := by decide +kernel
theorem dL_law_312 : decode cL_law 312 = .ok (.iaload, 1) := by decide +kernel
theorem dL_law_313 : decode cL_law 313 = .ok (.aload_n 0, 1) := by decide +kernel
theorem dL_law_314 : decode cL_law 314 = .ok (.iload 4, 2) := by decide +kernel
theorem dL_law_316 : decode cL_law 316 = .ok (.iconst 3, 1) := by decide +kernel
theorem dL_law_317 : decode cL_law 317 = .ok (.iadd, 1) := by decide +kernel
theorem dL_law_318 : decode cL_law 318 = .ok (.iaload, 1) := by decide +kernel
theorem dL_law_319 : decode cL_law 319 = .ok (.aload_n 0, 1) := by decide +kernel
theorem dL_law_320 : decode cL_law 320 = .ok (.iload 4, 2) := by decide +kernel
theorem dL_law_322 : decode cL_law 322 = .ok (.iconst 4, 1) := by decide +kernel
theorem dL_law_323 : decode cL_law 323 = .ok (.iadd, 1) := by decide +kernel
theorem dL_law_324 : decode cL_law 324 = .ok (.iaload, 1) := by decide +kernel
theorem dL_law_325 : decode cL_law 325 = .ok (.aload_n 3, 1) := by decide +kernel
theorem dL_law_326 : decode cL_law 326 = .ok (.invokestatic 78, 3) := by decide +kernel
theorem dL_law_329 : decode cL_law 329 = .ok (.istore 5, 2) := by decide +kernel
theorem dL_law_331 : decode cL_law 331 = .ok (.aload_n 2, 1) := by decide +kernel
theorem dL_law_332 : decode cL_law 332 = .ok (.aload_n 0, 1) := by decide +kernel
theorem dL_law_333 : decode cL_law 333 = .ok (.iload 4, 2) := by decide +kernel
theorem dL_law_335 : decode cL_law 335 = .ok (.iconst 1, 1) := by decide +kernel
theorem dL_law_336 : decode cL_law 336 = .ok (.iadd, 1) := by decide +kernel
theorem dL_law_337 : decode cL_law 337 = .ok (.iaload, 1) := by decide +kernel
theorem dL_law_338 : decode cL_law 338 = .ok (.aload_n 0, 1) := by decide +kernel
theorem dL_law_339 : decode cL_law 339 = .ok (.iload 4, 2) := by decide +kernel
theorem dL_law_341 : decode cL_law 341 = .ok (.iconst 2, 1) := by decide +kernel
theorem dL_law_342 : decode cL_law 342 = .ok (.iadd, 1) := by decide +kernel
theorem dL_law_343 : decode cL_law 343 = .ok (.iaload, 1) := by decide +kernel
theorem dL_law_344 : decode cL_law 344 = .ok (.aload_n 0, 1) := by decide +kernel
theorem dL_law_345 : decode cL_law 345 = .ok (.iload 4, 2) := by decide +kernel
theorem dL_law_347 : decode cL_law 347 = .ok (.iconst 3, 1) := by decide +kernel
theorem dL_law_348 : decode cL_law 348 = .ok (.iadd, 1) := by decide +kernel
theorem dL_law_349 : decode cL_law 349 = .ok (.iaload, 1) := by decide +kernel
theorem dL_law_350 : decode cL_law 350 = .ok (.aload_n 0, 1) := by decide +kernel
theorem dL_law_351 : decode cL_law 351 = .ok (.iload 4, 2) := by decide +kernel
theorem dL_law_353 : decode cL_law 353 = .ok (.iconst 4, 1) := by decide +kernel
theorem dL_law_354 : decode cL_law 354 = .ok (.iadd, 1) := by decide +kernel
theorem dL_law_355 : decode cL_law 355 = .ok (.iaload, 1) := by decide +kernel
theorem dL_law_356 : decode cL_law 356 = .ok (.invokevirtual 80, 3) := by decide +kernel
theorem dL_law_359 : decode cL_law 359 = .ok (.istore 6, 2) := by decide +kernel
theorem dL_law_361 : decode cL_law 361 = .ok (.aload_n 2, 1) := by decide +kernel
theorem dL_law_362 : decode cL_law 362 = .ok (.invokevirtual 70, 3) := by decide +kernel
theorem dL_law_365 : decode cL_law 365 = .ok (.iload 5, 2) := by decide +kernel
theorem dL_law_367 : decode cL_law 367 = .ok (.if_icmp .eq 5, 3) := by decide +kernel
theorem dL_law_370 : decode cL_law 370 = .ok (.iconst 0, 1) := by decide +kernel
theorem dL_law_371 : decode cL_law 371 = .ok (.ireturn, 1) := by decide +kernel
theorem dL_law_372 : decode cL_law 372 = .ok (.iload 5, 2) := by decide +kernel
theorem dL_law_374 : decode cL_law 374 = .ok (.ifCond .ne 15, 3) := by decide +kernel
theorem dL_law_377 : decode cL_law 377 = .ok (.aload_n 3, 1) := by decide +kernel
theorem dL_law_378 : decode cL_law 378 = .ok (.iconst 0, 1) := by decide +kernel
theorem dL_law_379 : decode cL_law 379 = .ok (.laload, 1) := by decide +kernel
theorem dL_law_380 : decode cL_law 380 = .ok (.iload 6, 2) := by decide +kernel
theorem dL_law_382 : decode cL_law 382 = .ok (.i2l, 1) := by decide +kernel
theorem dL_law_383 : decode cL_law 383 = .ok (.lcmp, 1) := by decide +kernel
theorem dL_law_384 : decode cL_law 384 = .ok (.ifCond .eq 5, 3) := by decide +kernel
theorem dL_law_387 : decode cL_law 387 = .ok (.iconst 0, 1) := by decide +kernel
theorem dL_law_388 : decode cL_law 388 = .ok (.ireturn, 1) := by decide +kernel
theorem dL_law_389 : decode cL_law 389 = .ok (.goto 724, 3) := by decide +kernel
theorem dL_law_392 : decode cL_law 392 = .ok (.aload_n 1, 1) := by decide +kernel
theorem dL_law_393 : decode cL_law 393 = .ok (.aload_n 0, 1) := by decide +kernel
theorem dL_law_394 : decode cL_law 394 = .ok (.iload 4, 2) := by decide +kernel
theorem dL_law_396 : decode cL_law 396 = .ok (.iconst 1, 1) := by decide +kernel
theorem dL_law_397 : decode cL_law 397 = .ok (.iadd, 1) := by decide +kernel
theorem dL_law_398 : decode cL_law 398 = .ok (.iaload, 1) := by decide +kernel
theorem dL_law_399 : decode cL_law 399 = .ok (.aload_n 3, 1) := by decide +kernel
theorem dL_law_400 : decode cL_law 400 = .ok (.invokestatic 81, 3) := by decide +kernel
theorem dL_law_403 : decode cL_law 403 = .ok (.istore 5, 2) := by decide +kernel
theorem dL_law_405 : decode cL_law 405 = .ok (.aload_n 2, 1) := by decide +kernel
theorem dL_law_406 : decode cL_law 406 = .ok (.aload_n 0, 1) := by decide +kernel
theorem dL_law_407 : decode cL_law 407 = .ok (.iload 4, 2) := by decide +kernel
theorem dL_law_409 : decode cL_law 409 = .ok (.iconst 1, 1) := by decide +kernel
theorem dL_law_410 : decode cL_law 410 = .ok (.iadd, 1) := by decide +kernel
theorem dL_law_411 : decode cL_law 411 = .ok (.iaload, 1) := by decide +kernel
theorem dL_law_412 : decode cL_law 412 = .ok (.invokevirtual 84, 3) := by decide +kernel
theorem dL_law_415 : decode cL_law 415 = .ok (.istore 6, 2) := by decide +kernel
theorem dL_law_417 : decode cL_law 417 = .ok (.aload_n 2, 1) := by decide +kernel
theorem dL_law_418 : decode cL_law 418 = .ok (.invokevirtual 70, 3) := by decide +kernel
theorem dL_law_421 : decode cL_law 421 = .ok (.iload 5, 2) := by decide +kernel
theorem dL_law_423 : decode cL_law 423 = .ok (.if_icmp .eq 5, 3) := by decide +kernel
theorem dL_law_426 : decode cL_law 426 = .ok (.iconst 0, 1) := by decide +kernel
theorem dL_law_427 : decode cL_law 427 = .ok (.ireturn, 1) := by decide +kernel
theorem dL_law_428 : decode cL_law 428 = .ok (.iload 5, 2) := by decide +kernel
theorem dL_law_430 : decode cL_law 430 = .ok (.ifCond .ne 15, 3) := by decide +kernel
theorem dL_law_433 : decode cL_law 433 = .ok (.aload_n 3, 1) := by decide +kernel
theorem dL_law_434 : decode cL_law 434 = .ok (.iconst 0, 1) := by decide +kernel
theorem dL_law_435 : decode cL_law 435 = .ok (.laload, 1) := by decide +kernel
theorem dL_law_436 : decode cL_law 436 = .ok (.iload 6, 2) := by decide +kernel
theorem dL_law_438 : decode cL_law 438 = .ok (.i2l, 1) := by decide +kernel
theorem dL_law_439 : decode cL_law 439 = .ok (.lcmp, 1) := by decide +kernel
theorem dL_law_440 : decode cL_law 440 = .ok (.ifCond .eq 5, 3) := by decide +kernel
theorem dL_law_443 : decode cL_law 443 = .ok (.iconst 0, 1) := by decide +kernel
theorem dL_law_444 : decode cL_law 444 = .ok (.ireturn, 1) := by decide +kernel
theorem dL_law_445 : decode cL_law 445 = .ok (.goto 668, 3) := by decide +kernel
theorem dL_law_448 : decode cL_law 448 = .ok (.aload_n 1, 1) := by decide +kernel
theorem dL_law_449 : decode cL_law 449 = .ok (.invokevirtual 85, 3) := by decide +kernel
theorem dL_law_452 : decode cL_law 452 = .ok (.aload_n 2, 1) := by decide +kernel
theorem dL_law_453 : decode cL_law 453 = .ok (.invokevirtual 88, 3) := by decide +kernel
theorem dL_law_456 : decode cL_law 456 = .ok (.if_icmp .eq 657, 3) := by decide +kernel
theorem dL_law_459 : decode cL_law 459 = .ok (.iconst 0, 1) := by decide +kernel
theorem dL_law_460 : decode cL_law 460 = .ok (.ireturn, 1) := by decide +kernel
theorem dL_law_461 : decode cL_law 461 = .ok (.aload_n 1, 1) := by decide +kernel
theorem dL_law_462 : decode cL_law 462 = .ok (.aload_n 0, 1) := by decide +kernel
theorem dL_law_463 : decode cL_law 463 = .ok (.iload 4, 2) := by decide +kernel
theorem dL_law_465 : decode cL_law 465 = .ok (.iconst 1, 1) := by decide +kernel
theorem dL_law_466 : decode cL_law 466 = .ok (.iadd, 1) := by decide +kernel
theorem dL_law_467 : decode cL_law 467 = .ok (.iaload, 1) := by decide +kernel
theorem dL_law_468 : decode cL_law 468 = .ok (.invokevirtual 89, 3) := by decide +kernel
theorem dL_law_471 : decode cL_law 471 = .ok (.aload_n 2, 1) := by decide +kernel
theorem dL_law_472 : decode cL_law 472 = .ok (.aload_n 0, 1) := by decide +kernel
theorem dL_law_473 : decode cL_law 473 = .ok (.iload 4, 2) := by decide +kernel
theorem dL_law_475 : decode cL_law 475 = .ok (.iconst 1, 1) := by decide +kernel
theorem dL_law_476 : decode cL_law 476 = .ok (.iadd, 1) := by decide +kernel
theorem dL_law_477 : decode cL_law 477 = .ok (.iaload, 1) := by decide +kernel
theorem dL_law_478 : decode cL_law 478 = .ok (.invokevirtual 92, 3) := by decide +kernel
theorem dL_law_481 : decode cL_law 481 = .ok (.if_icmp .eq 632, 3) := by decide +kernel
theorem dL_law_484 : decode cL_law 484 = .ok (.iconst 0, 1) := by decide +kernel
theorem dL_law_485 : decode cL_law 485 = .ok (.ireturn, 1) := by decide +kernel
theorem dL_law_486 : decode cL_law 486 = .ok (.aload_n 1, 1) := by decide +kernel
theorem dL_law_487 : decode cL_law 487 = .ok (.aload_n 0, 1) := by decide +kernel
theorem dL_law_488 : decode cL_law 488 = .ok (.iload 4, 2) := by decide +kernel
theorem dL_law_490 : decode cL_law 490 = .ok (.iconst 1, 1) := by decide +kernel
theorem dL_law_491 : decode cL_law 491 = .ok (.iadd, 1) := by decide +kernel
theorem dL_law_492 : decode cL_law 492 = .ok (.iaload, 1) := by decide +kernel
theorem dL_law_493 : decode cL_law 493 = .ok (.aload_n 3, 1) := by decide +kernel
theorem dL_law_494 : decode cL_law 494 = .ok (.invokestatic 93, 3) := by decide +kernel
theorem dL_law_497 : decode cL_law 497 = .ok (.istore 5, 2) := by decide +kernel
theorem dL_law_499 : decode cL_law 499 = .ok (.aload_n 2, 1) := by decide +kernel
theorem dL_law_500 : decode cL_law 500 = .ok (.aload_n 0, 1) := by decide +kernel
theorem dL_law_501 : decode cL_law 501 = .ok (.iload 4, 2) := by decide +kernel
theorem dL_law_503 : decode cL_law 503 = .ok (.iconst 1, 1) := by decide +kernel
theorem dL_law_504 : decode cL_law 504 = .ok (.iadd, 1) := by decide +kernel
theorem dL_law_505 : decode cL_law 505 = .ok (.iaload, 1) := by decide +kernel
theorem dL_law_506 : decode cL_law 506 = .ok (.invokevirtual 95, 3) := by decide +kernel
theorem dL_law_509 : decode cL_law 509 = .ok (.istore 6, 2) := by decide +kernel
theorem dL_law_511 : decode cL_law 511 = .ok (.aload_n 2, 1) := by decide +kernel
theorem dL_law_512 : decode cL_law 512 = .ok (.invokevirtual 70, 3) := by decide +kernel
theorem dL_law_515 : decode cL_law 515 = .ok (.iload 5, 2) := by decide +kernel
theorem dL_law_517 : decode cL_law 517 = .ok (.if_icmp .eq 5, 3) := by decide +kernel
theorem dL_law_520 : decode cL_law 520 = .ok (.iconst 0, 1) := by decide +kernel
theorem dL_law_521 : decode cL_law 521 = .ok (.ireturn, 1) := by decide +kernel
theorem dL_law_522 : decode cL_law 522 = .ok (.iload 5, 2) := by decide +kernel
theorem dL_law_524 : decode cL_law 524 = .ok (.ifCond .ne 15, 3) := by decide +kernel
theorem dL_law_527 : decode cL_law 527 = .ok (.aload_n 3, 1) := by decide +kernel
theorem dL_law_528 : decode cL_law 528 = .ok (.iconst 0, 1) := by decide +kernel
theorem dL_law_529 : decode cL_law 529 = .ok (.laload, 1) := by decide +kernel
theorem dL_law_530 : decode cL_law 530 = .ok (.iload 6, 2) := by decide +kernel
theorem dL_law_532 : decode cL_law 532 = .ok (.i2l, 1) := by decide +kernel
theorem dL_law_533 : decode cL_law 533 = .ok (.lcmp, 1) := by decide +kernel
theorem dL_law_534 : decode cL_law 534 = .ok (.ifCond .eq 5, 3) := by decide +kernel
theorem dL_law_537 : decode cL_law 537 = .ok (.iconst 0, 1) := by decide +kernel
theorem dL_law_538 : decode cL_law 538 = .ok (.ireturn, 1) := by decide +kernel
theorem dL_law_539 : decode cL_law 539 = .ok (.goto 574, 3) := by decide +kernel
theorem dL_law_542 : decode cL_law 542 = .ok (.aload_n 1, 1) := by decide +kernel
theorem dL_law_543 : decode cL_law 543 = .ok (.aload_n 0, 1) := by decide +kernel
theorem dL_law_544 : decode cL_law 544 = .ok (.iload 4, 2) := by decide +kernel
theorem dL_law_546 : decode cL_law 546 = .ok (.iconst 1, 1) := by decide +kernel
theorem dL_law_547 : decode cL_law 547 = .ok (.iadd, 1) := by decide +kernel
theorem dL_law_548 : decode cL_law 548 = .ok (.iaload, 1) := by decide +kernel
theorem dL_law_549 : decode cL_law 549 = .ok (.aload_n 3, 1) := by decide +kernel
theorem dL_law_550 : decode cL_law 550 = .ok (.invokestatic 96, 3) := by decide +kernel
theorem dL_law_553 : decode cL_law 553 = .ok (.istore 5, 2) := by decide +kernel
theorem dL_law_555 : decode cL_law 555 = .ok (.aload_n 2, 1) := by decide +kernel
theorem dL_law_556 : decode cL_law 556 = .ok (.aload_n 0, 1) := by decide +kernel
theorem dL_law_557 : decode cL_law 557 = .ok (.iload 4, 2) := by decide +kernel
theorem dL_law_559 : decode cL_law 559 = .ok (.iconst 1, 1) := by decide +kernel
theorem dL_law_560 : decode cL_law 560 = .ok (.iadd, 1) := by decide +kernel
theorem dL_law_561 : decode cL_law 561 = .ok (.iaload, 1) := by decide +kernel
theorem dL_law_562 : decode cL_law 562 = .ok (.invokevirtual 98, 3) := by decide +kernel
theorem dL_law_565 : decode cL_law 565 = .ok (.istore 6, 2) := by decide +kernel
theorem dL_law_567 : decode cL_law 567 = .ok (.aload_n 2, 1) := by decide +kernel
theorem dL_law_568 : decode cL_law 568 = .ok (.invokevirtual 70, 3) := by decide +kernel
theorem dL_law_571 : decode cL_law 571 = .ok (.iload 5, 2) := by decide +kernel
theorem dL_law_573 : decode cL_law 573 = .ok (.if_icmp .eq 5, 3) := by decide +kernel
theorem dL_law_576 : decode cL_law 576 = .ok (.iconst 0, 1) := by decide +kernel
theorem dL_law_577 : decode cL_law 577 = .ok (.ireturn, 1) := by decide +kernel
theorem dL_law_578 : decode cL_law 578 = .ok (.iload 5, 2) := by decide +kernel
theorem dL_law_580 : decode cL_law 580 = .ok (.ifCond .ne 15, 3) := by decide +kernel
theorem dL_law_583 : decode cL_law 583 = .ok (.aload_n 3, 1) := by decide +kernel
theorem dL_law_584 : decode cL_law 584 = .ok (.iconst 0, 1) := by decide +kernel
theorem dL_law_585 : decode cL_law 585 = .ok (.laload, 1) := by decide +kernel
theorem dL_law_586 : decode cL_law 586 = .ok (.iload 6, 2) := by decide +kernel
theorem dL_law_588 : decode cL_law 588 = .ok (.i2l, 1) := by decide +kernel
theorem dL_law_589 : decode cL_law 589 = .ok (.lcmp, 1) := by decide +kernel
theorem dL_law_590 : decode cL_law 590 = .ok (.ifCond .eq 5, 3) := by decide +kernel
theorem dL_law_593 : decode cL_law 593 = .ok (.iconst 0, 1) := by decide +kernel
theorem dL_law_594 : decode cL_law 594 = .ok (.ireturn, 1) := by decide +kernel
theorem dL_law_595 : decode cL_law 595 = .ok (.goto 518, 3) := by decide +kernel
theorem dL_law_598 : decode cL_law 598 = .ok (.aload_n 1, 1) := by decide +kernel
theorem dL_law_599 : decode cL_law 599 = .ok (.aload_n 0, 1) := by decide +kernel
theorem dL_law_600 : decode cL_law 600 = .ok (.iload 4, 2) := by decide +kernel
theorem dL_law_602 : decode cL_law 602 = .ok (.iconst 1, 1) := by decide +kernel
theorem dL_law_603 : decode cL_law 603 = .ok (.iadd, 1) := by decide +kernel
theorem dL_law_604 : decode cL_law 604 = .ok (.iaload, 1) := by decide +kernel
theorem dL_law_605 : decode cL_law 605 = .ok (.aload_n 0, 1) := by decide +kernel
theorem dL_law_606 : decode cL_law 606 = .ok (.iload 4, 2) := by decide +kernel
theorem dL_law_608 : decode cL_law 608 = .ok (.iconst 2, 1) := by decide +kernel
theorem dL_law_609 : decode cL_law 609 = .ok (.iadd, 1) := by decide +kernel
theorem dL_law_610 : decode cL_law 610 = .ok (.iaload, 1) := by decide +kernel
theorem dL_law_611 : decode cL_law 611 = .ok (.aload_n 3, 1) := by decide +kernel
theorem dL_law_612 : decode cL_law 612 = .ok (.invokestatic 99, 3) := by decide +kernel
theorem dL_law_615 : decode cL_law 615 = .ok (.istore 5, 2) := by decide +kernel
theorem dL_law_617 : decode cL_law 617 = .ok (.aload_n 2, 1) := by decide +kernel
theorem dL_law_618 : decode cL_law 618 = .ok (.aload_n 0, 1) := by decide +kernel
theorem dL_law_619 : decode cL_law 619 = .ok (.iload 4, 2) := by decide +kernel
theorem dL_law_621 : decode cL_law 621 = .ok (.iconst 1, 1) := by decide +kernel
theorem dL_law_622 : decode cL_law 622 = .ok (.iadd, 1) := by decide +kernel
theorem dL_law_623 : decode cL_law 623 = .ok (.iaload, 1) := by decide +kernel
theorem dL_law_624 : decode cL_law 624 = .ok (.aload_n 0, 1) := by decide +kernel
theorem dL_law_625 : decode cL_law 625 = .ok (.iload 4, 2) := by decide +kernel
theorem dL_law_627 : decode cL_law 627 = .ok (.iconst 2, 1) := by decide +kernel
theorem dL_law_628 : decode cL_law 628 = .ok (.iadd, 1) := by decide +kernel
theorem dL_law_629 : decode cL_law 629 = .ok (.iaload, 1) := by decide +kernel
theorem dL_law_630 : decode cL_law 630 = .ok (.invokevirtual 102, 3) := by decide +kernel
theorem dL_law_633 : decode cL_law 633 = .ok (.istore 6, 2) := by decide +kernel
theorem dL_law_635 : decode cL_law 635 = .ok (.aload_n 2, 1) := by decide +kernel
theorem dL_law_636 : decode cL_law 636 = .ok (.invokevirtual 70, 3) := by decide +kernel
theorem dL_law_639 : decode cL_law 639 = .ok (.iload 5, 2) := by decide +kernel
theorem dL_law_641 : decode cL_law 641 = .ok (.if_icmp .eq 5, 3) := by decide +kernel
theorem dL_law_644 : decode cL_law 644 = .ok (.iconst 0, 1) := by decide +kernel
theorem dL_law_645 : decode cL_law 645 = .ok (.ireturn, 1) := by decide +kernel
theorem dL_law_646 : decode cL_law 646 = .ok (.iload 5, 2) := by decide +kernel
theorem dL_law_648 : decode cL_law 648 = .ok (.ifCond .ne 15, 3) := by decide +kernel
theorem dL_law_651 : decode cL_law 651 = .ok (.aload_n 3, 1) := by decide +kernel
theorem dL_law_652 : decode cL_law 652 = .ok (.iconst 0, 1) := by decide +kernel
theorem dL_law_653 : decode cL_law 653 = .ok (.laload, 1) := by decide +kernel
theorem dL_law_654 : decode cL_law 654 = .ok (.iload 6, 2) := by decide +kernel
theorem dL_law_656 : decode cL_law 656 = .ok (.i2l, 1) := by decide +kernel
theorem dL_law_657 : decode cL_law 657 = .ok (.lcmp, 1) := by decide +kernel
theorem dL_law_658 : decode cL_law 658 = .ok (.ifCond .eq 5, 3) := by decide +kernel
theorem dL_law_661 : decode cL_law 661 = .ok (.iconst 0, 1) := by decide +kernel
theorem dL_law_662 : decode cL_law 662 = .ok (.ireturn, 1) := by decide +kernel
theorem dL_law_663 : decode cL_law 663 = .ok (.goto 450, 3) := by decide +kernel
theorem dL_law_666 : decode cL_law 666 = .ok (.aload_n 1, 1) := by decide +kernel
theorem dL_law_667 : decode cL_law 667 = .ok (.invokevirtual 103, 3) := by decide +kernel
theorem dL_law_670 : decode cL_law 670 = .ok (.aload_n 2, 1) := by decide +kernel
theorem dL_law_671 : decode cL_law 671 = .ok (.invokevirtual 106, 3) := by decide +kernel
theorem dL_law_674 : decode cL_law 674 = .ok (.if_icmp .eq 439, 3) := by decide +kernel
theorem dL_law_677 : decode cL_law 677 = .ok (.iconst 0, 1) := by decide +kernel
theorem dL_law_678 : decode cL_law 678 = .ok (.ireturn, 1) := by decide +kernel
theorem dL_law_679 : decode cL_law 679 = .ok (.aload_n 1, 1) := by decide +kernel
theorem dL_law_680 : decode cL_law 680 = .ok (.aload_n 0, 1) := by decide +kernel
theorem dL_law_681 : decode cL_law 681 = .ok (.iload 4, 2) := by decide +kernel
theorem dL_law_683 : decode cL_law 683 = .ok (.iconst 1, 1) := by decide +kernel
theorem dL_law_684 : decode cL_law 684 = .ok (.iadd, 1) := by decide +kernel
theorem dL_law_685 : decode cL_law 685 = .ok (.iaload, 1) := by decide +kernel
theorem dL_law_686 : decode cL_law 686 = .ok (.aload_n 0, 1) := by decide +kernel
theorem dL_law_687 : decode cL_law 687 = .ok (.iload 4, 2) := by decide +kernel
theorem dL_law_689 : decode cL_law 689 = .ok (.iconst 2, 1) := by decide +kernel
theorem dL_law_690 : decode cL_law 690 = .ok (.iadd, 1) := by decide +kernel
theorem dL_law_691 : decode cL_law 691 = .ok (.iaload, 1) := by decide +kernel
theorem dL_law_692 : decode cL_law 692 = .ok (.aload_n 3, 1) := by decide +kernel
theorem dL_law_693 : decode cL_law 693 = .ok (.invokestatic 107, 3) := by decide +kernel
theorem dL_law_696 : decode cL_law 696 = .ok (.istore 5, 2) := by decide +kernel
theorem dL_law_698 : decode cL_law 698 = .ok (.aload_n 2, 1) := by decide +kernel
theorem dL_law_699 : decode cL_law 699 = .ok (.aload_n 0, 1) := by decide +kernel
theorem dL_law_700 : decode cL_law 700 = .ok (.iload 4, 2) := by decide +kernel
theorem dL_law_702 : decode cL_law 702 = .ok (.iconst 1, 1) := by decide +kernel
theorem dL_law_703 : decode cL_law 703 = .ok (.iadd, 1) := by decide +kernel
theorem dL_law_704 : decode cL_law 704 = .ok (.iaload, 1) := by decide +kernel
theorem dL_law_705 : decode cL_law 705 = .ok (.aload_n 0, 1) := by decide +kernel
theorem dL_law_706 : decode cL_law 706 = .ok (.iload 4, 2) := by decide +kernel
theorem dL_law_708 : decode cL_law 708 = .ok (.iconst 2, 1) := by decide +kernel
theorem dL_law_709 : decode cL_law 709 = .ok (.iadd, 1) := by decide +kernel
theorem dL_law_710 : decode cL_law 710 = .ok (.iaload, 1) := by decide +kernel
theorem dL_law_711 : decode cL_law 711 = .ok (.invokevirtual 109, 3) := by decide +kernel
theorem dL_law_714 : decode cL_law 714 = .ok (.istore 6, 2) := by decide +kernel
theorem dL_law_716 : decode cL_law 716 = .ok (.aload_n 2, 1) := by decide +kernel
theorem dL_law_717 : decode cL_law 717 = .ok (.invokevirtual 70, 3) := by decide +kernel
theorem dL_law_720 : decode cL_law 720 = .ok (.iload 5, 2) := by decide +kernel
theorem dL_law_722 : decode cL_law 722 = .ok (.if_icmp .eq 5, 3) := by decide +kernel
theorem dL_law_725 : decode cL_law 725 = .ok (.iconst 0, 1) := by decide +kernel
theorem dL_law_726 : decode cL_law 726 = .ok (.ireturn, 1) := by decide +kernel
theorem dL_law_727 : decode cL_law 727 = .ok (.iload 5, 2) := by decide +kernel
theorem dL_law_729 : decode cL_law 729 = .ok (.ifCond .ne 15, 3) := by decide +kernel
theorem dL_law_732 : decode cL_law 732 = .ok (.aload_n 3, 1) := by decide +kernel
theorem dL_law_733 : decode cL_law 733 = .ok (.iconst 0, 1) := by decide +kernel
theorem dL_law_734 : decode cL_law 734 = .ok (.laload, 1) := by decide +kernel
theorem dL_law_735 : decode cL_law 735 = .ok (.iload 6, 2) := by decide +kernel
theorem dL_law_737 : decode cL_law 737 = .ok (.i2l, 1) := by decide +kernel
theorem dL_law_738 : decode cL_law 738 = .ok (.lcmp, 1) := by decide +kernel
theorem dL_law_739 : decode cL_law 739 = .ok (.ifCond .eq 5, 3) := by decide +kernel
theorem dL_law_742 : decode cL_law 742 = .ok (.iconst 0, 1) := by decide +kernel
theorem dL_law_743 : decode cL_law 743 = .ok (.ireturn, 1) := by decide +kernel
theorem dL_law_744 : decode cL_law 744 = .ok (.goto 369, 3) := by decide +kernel
theorem dL_law_747 : decode cL_law 747 = .ok (.aload_n 1, 1) := by decide +kernel
theorem dL_law_748 : decode cL_law 748 = .ok (.invokevirtual 110, 3) := by decide +kernel
theorem dL_law_751 : decode cL_law 751 = .ok (.aload_n 2, 1) := by decide +kernel
theorem dL_law_752 : decode cL_law 752 = .ok (.invokevirtual 113, 3) := by decide +kernel
theorem dL_law_755 : decode cL_law 755 = .ok (.if_icmp .eq 358, 3) := by decide +kernel
theorem dL_law_758 : decode cL_law 758 = .ok (.iconst 0, 1) := by decide +kernel
theorem dL_law_759 : decode cL_law 759 = .ok (.ireturn, 1) := by decide +kernel
theorem dL_law_760 : decode cL_law 760 = .ok (.aload_n 1, 1) := by decide +kernel
theorem dL_law_761 : decode cL_law 761 = .ok (.aload_n 0, 1) := by decide +kernel
theorem dL_law_762 : decode cL_law 762 = .ok (.iload 4, 2) := by decide +kernel
theorem dL_law_764 : decode cL_law 764 = .ok (.iconst 1, 1) := by decide +kernel
theorem dL_law_765 : decode cL_law 765 = .ok (.iadd, 1) := by decide +kernel
theorem dL_law_766 : decode cL_law 766 = .ok (.iaload, 1) := by decide +kernel
theorem dL_law_767 : decode cL_law 767 = .ok (.aload_n 3, 1) := by decide +kernel
theorem dL_law_768 : decode cL_law 768 = .ok (.invokestatic 114, 3) := by decide +kernel
theorem dL_law_771 : decode cL_law 771 = .ok (.istore 5, 2) := by decide +kernel
theorem dL_law_773 : decode cL_law 773 = .ok (.aload_n 2, 1) := by decide +kernel
theorem dL_law_774 : decode cL_law 774 = .ok (.aload_n 0, 1) := by decide +kernel
theorem dL_law_775 : decode cL_law 775 = .ok (.iload 4, 2) := by decide +kernel
theorem dL_law_777 : decode cL_law 777 = .ok (.iconst 1, 1) := by decide +kernel
theorem dL_law_778 : decode cL_law 778 = .ok (.iadd, 1) := by decide +kernel
theorem dL_law_779 : decode cL_law 779 = .ok (.iaload, 1) := by decide +kernel
theorem dL_law_780 : decode cL_law 780 = .ok (.invokevirtual 116, 3) := by decide +kernel
theorem dL_law_783 : decode cL_law 783 = .ok (.istore 6, 2) := by decide +kernel
theorem dL_law_785 : decode cL_law 785 = .ok (.aload_n 2, 1) := by decide +kernel
theorem dL_law_786 : decode cL_law 786 = .ok (.invokevirtual 70, 3) := by decide +kernel
theorem dL_law_789 : decode cL_law 789 = .ok (.iload 5, 2) := by decide +kernel
theorem dL_law_791 : decode cL_law 791 = .ok (.if_icmp .eq 5, 3) := by decide +kernel
theorem dL_law_794 : decode cL_law 794 = .ok (.iconst 0, 1) := by decide +kernel
theorem dL_law_795 : decode cL_law 795 = .ok (.ireturn, 1) := by decide +kernel
theorem dL_law_796 : decode cL_law 796 = .ok (.iload 5, 2) := by decide +kernel
theorem dL_law_798 : decode cL_law 798 = .ok (.ifCond .ne 15, 3) := by decide +kernel
theorem dL_law_801 : decode cL_law 801 = .ok (.aload_n 3, 1) := by decide +kernel
theorem dL_law_802 : decode cL_law 802 = .ok (.iconst 0, 1) := by decide +kernel
theorem dL_law_803 : decode cL_law 803 = .ok (.laload, 1) := by decide +kernel
theorem dL_law_804 : decode cL_law 804 = .ok (.iload 6, 2) := by decide +kernel
theorem dL_law_806 : decode cL_law 806 = .ok (.i2l, 1) := by decide +kernel
theorem dL_law_807 : decode cL_law 807 = .ok (.lcmp, 1) := by decide +kernel
theorem dL_law_808 : decode cL_law 808 = .ok (.ifCond .eq 5, 3) := by decide +kernel
theorem dL_law_811 : decode cL_law 811 = .ok (.iconst 0, 1) := by decide +kernel
theorem dL_law_812 : decode cL_law 812 = .ok (.ireturn, 1) := by decide +kernel
theorem dL_law_813 : decode cL_law 813 = .ok (.goto 300, 3) := by decide +kernel
theorem dL_law_816 : decode cL_law 816 = .ok (.aload_n 1, 1) := by decide +kernel
theorem dL_law_817 : decode cL_law 817 = .ok (.aload_n 0, 1) := by decide +kernel
theorem dL_law_818 : decode cL_law 818 = .ok (.iload 4, 2) := by decide +kernel
theorem dL_law_820 : decode cL_law 820 = .ok (.iconst 1, 1) := by decide +kernel
theorem dL_law_821 : decode cL_law 821 = .ok (.iadd, 1) := by decide +kernel
theorem dL_law_822 : decode cL_law 822 = .ok (.iaload, 1) := by decide +kernel
theorem dL_law_823 : decode cL_law 823 = .ok (.aload_n 3, 1) := by decide +kernel
theorem dL_law_824 : decode cL_law 824 = .ok (.invokestatic 117, 3) := by decide +kernel
theorem dL_law_827 : decode cL_law 827 = .ok (.istore 5, 2) := by decide +kernel
theorem dL_law_829 : decode cL_law 829 = .ok (.aload_n 2, 1) := by decide +kernel
theorem dL_law_830 : decode cL_law 830 = .ok (.aload_n 0, 1) := by decide +kernel
theorem dL_law_831 : decode cL_law 831 = .ok (.iload 4, 2) := by decide +kernel
theorem dL_law_833 : decode cL_law 833 = .ok (.iconst 1, 1) := by decide +kernel
theorem dL_law_834 : decode cL_law 834 = .ok (.iadd, 1) := by decide +kernel
theorem dL_law_835 : decode cL_law 835 = .ok (.iaload, 1) := by decide +kernel
theorem dL_law_836 : decode cL_law 836 = .ok (.invokevirtual 119, 3) := by decide +kernel
theorem dL_law_839 : decode cL_law 839 = .ok (.istore 6, 2) := by decide +kernel
theorem dL_law_841 : decode cL_law 841 = .ok (.aload_n 2, 1) := by decide +kernel
theorem dL_law_842 : decode cL_law 842 = .ok (.invokevirtual 70, 3) := by decide +kernel
theorem dL_law_845 : decode cL_law 845 = .ok (.iload 5, 2) := by decide +kernel
theorem dL_law_847 : decode cL_law 847 = .ok (.if_icmp .eq 5, 3) := by decide +kernel
theorem dL_law_850 : decode cL_law 850 = .ok (.iconst 0, 1) := by decide +kernel
theorem dL_law_851 : decode cL_law 851 = .ok (.ireturn, 1) := by decide +kernel
theorem dL_law_852 : decode cL_law 852 = .ok (.iload 5, 2) := by decide +kernel
theorem dL_law_854 : decode cL_law 854 = .ok (.ifCond .ne 15, 3) := by decide +kernel
theorem dL_law_857 : decode cL_law 857 = .ok (.aload_n 3, 1) := by decide +kernel
theorem dL_law_858 : decode cL_law 858 = .ok (.iconst 0, 1) := by decide +kernel
theorem dL_law_859 : decode cL_law 859 = .ok (.laload, 1) := by decide +kernel
theorem dL_law_860 : decode cL_law 860 = .ok (.iload 6, 2) := by decide +kernel
theorem dL_law_862 : decode cL_law 862 = .ok (.i2l, 1) := by decide +kernel
theorem dL_law_863 : decode cL_law 863 = .ok (.lcmp, 1) := by decide +kernel
theorem dL_law_864 : decode cL_law 864 = .ok (.ifCond .eq 5, 3) := by decide +kernel
theorem dL_law_867 : decode cL_law 867 = .ok (.iconst 0, 1) := by decide +kernel
theorem dL_law_868 : decode cL_law 868 = .ok (.ireturn, 1) := by decide +kernel
theorem dL_law_869 : decode cL_law 869 = .ok (.goto 244, 3) := by decide +kernel
theorem dL_law_872 : decode cL_law 872 = .ok (.aload_n 1, 1) := by decide +kernel
theorem dL_law_873 : decode cL_law 873 = .ok (.aload_n 0, 1) := by decide +kernel
theorem dL_law_874 : decode cL_law 874 = .ok (.iload 4, 2) := by decide +kernel
theorem dL_law_876 : decode cL_law 876 = .ok (.iconst 1, 1) := by decide +kernel
theorem dL_law_877 : decode cL_law 877 = .ok (.iadd, 1) := by decide +kernel
theorem dL_law_878 : decode cL_law 878 = .ok (.iaload, 1) := by decide +kernel
theorem dL_law_879 : decode cL_law 879 = .ok (.invokestatic 120, 3) := by decide +kernel
theorem dL_law_882 : decode cL_law 882 = .ok (.istore 5, 2) := by decide +kernel
theorem dL_law_884 : decode cL_law 884 = .ok (.aload_n 2, 1) := by decide +kernel
theorem dL_law_885 : decode cL_law 885 = .ok (.aload_n 0, 1) := by decide +kernel
theorem dL_law_886 : decode cL_law 886 = .ok (.iload 4, 2) := by decide +kernel
theorem dL_law_888 : decode cL_law 888 = .ok (.iconst 1, 1) := by decide +kernel
theorem dL_law_889 : decode cL_law 889 = .ok (.iadd, 1) := by decide +kernel
theorem dL_law_890 : decode cL_law 890 = .ok (.iaload, 1) := by decide +kernel
theorem dL_law_891 : decode cL_law 891 = .ok (.invokevirtual 123, 3) := by decide +kernel
theorem dL_law_894 : decode cL_law 894 = .ok (.aload_n 2, 1) := by decide +kernel
theorem dL_law_895 : decode cL_law 895 = .ok (.invokevirtual 70, 3) := by decide +kernel
theorem dL_law_898 : decode cL_law 898 = .ok (.iload 5, 2) := by decide +kernel
theorem dL_law_900 : decode cL_law 900 = .ok (.if_icmp .eq 5, 3) := by decide +kernel
theorem dL_law_903 : decode cL_law 903 = .ok (.iconst 0, 1) := by decide +kernel
theorem dL_law_904 : decode cL_law 904 = .ok (.ireturn, 1) := by decide +kernel
theorem dL_law_905 : decode cL_law 905 = .ok (.goto 208, 3) := by decide +kernel
theorem dL_law_908 : decode cL_law 908 = .ok (.aload_n 1, 1) := by decide +kernel
theorem dL_law_909 : decode cL_law 909 = .ok (.aload_n 0, 1) := by decide +kernel
theorem dL_law_910 : decode cL_law 910 = .ok (.iload 4, 2) := by decide +kernel
theorem dL_law_912 : decode cL_law 912 = .ok (.iconst 1, 1) := by decide +kernel
theorem dL_law_913 : decode cL_law 913 = .ok (.iadd, 1) := by decide +kernel
theorem dL_law_914 : decode cL_law 914 = .ok (.iaload, 1) := by decide +kernel
theorem dL_law_915 : decode cL_law 915 = .ok (.aload_n 3, 1) := by decide +kernel
theorem dL_law_916 : decode cL_law 916 = .ok (.invokestatic 124, 3) := by decide +kernel
theorem dL_law_919 : decode cL_law 919 = .ok (.istore 5, 2) := by decide +kernel
theorem dL_law_921 : decode cL_law 921 = .ok (.aload_n 2, 1) := by decide +kernel
theorem dL_law_922 : decode cL_law 922 = .ok (.aload_n 0, 1) := by decide +kernel
theorem dL_law_923 : decode cL_law 923 = .ok (.iload 4, 2) := by decide +kernel
theorem dL_law_925 : decode cL_law 925 = .ok (.iconst 1, 1) := by decide +kernel
theorem dL_law_926 : decode cL_law 926 = .ok (.iadd, 1) := by decide +kernel
theorem dL_law_927 : decode cL_law 927 = .ok (.iaload, 1) := by decide +kernel
theorem dL_law_928 : decode cL_law 928 = .ok (.invokevirtual 126, 3) := by decide +kernel
theorem dL_law_931 : decode cL_law 931 = .ok (.istore 6, 2) := by decide +kernel
theorem dL_law_933 : decode cL_law 933 = .ok (.aload_n 2, 1) := by decide +kernel
theorem dL_law_934 : decode cL_law 934 = .ok (.invokevirtual 70, 3) := by decide +kernel
theorem dL_law_937 : decode cL_law 937 = .ok (.iload 5, 2) := by decide +kernel
theorem dL_law_939 : decode cL_law 939 = .ok (.if_icmp .eq 5, 3) := by decide +kernel
theorem dL_law_942 : decode cL_law 942 = .ok (.iconst 0, 1) := by decide +kernel
theorem dL_law_943 : decode cL_law 943 = .ok (.ireturn, 1) := by decide +kernel
theorem dL_law_944 : decode cL_law 944 = .ok (.iload 5, 2) := by decide +kernel
theorem dL_law_946 : decode cL_law 946 = .ok (.ifCond .ne 15, 3) := by decide +kernel
theorem dL_law_949 : decode cL_law 949 = .ok (.aload_n 3, 1) := by decide +kernel
theorem dL_law_950 : decode cL_law 950 = .ok (.iconst 0, 1) := by decide +kernel
theorem dL_law_951 : decode cL_law 951 = .ok (.laload, 1) := by decide +kernel
theorem dL_law_952 : decode cL_law 952 = .ok (.iload 6, 2) := by decide +kernel
theorem dL_law_954 : decode cL_law 954 = .ok (.i2l, 1) := by decide +kernel
theorem dL_law_955 : decode cL_law 955 = .ok (.lcmp, 1) := by decide +kernel
theorem dL_law_956 : decode cL_law 956 = .ok (.ifCond .eq 5, 3) := by decide +kernel
theorem dL_law_959 : decode cL_law 959 = .ok (.iconst 0, 1) := by decide +kernel
theorem dL_law_960 : decode cL_law 960 = .ok (.ireturn, 1) := by decide +kernel
theorem dL_law_961 : decode cL_law 961 = .ok (.goto 152, 3) := by decide +kernel
theorem dL_law_964 : decode cL_law 964 = .ok (.aload_n 1, 1) := by decide +kernel
theorem dL_law_965 : decode cL_law 965 = .ok (.aload_n 0, 1) := by decide +kernel
theorem dL_law_966 : decode cL_law 966 = .ok (.iload 4, 2) := by decide +kernel
theorem dL_law_968 : decode cL_law 968 = .ok (.iconst 1, 1) := by decide +kernel
theorem dL_law_969 : decode cL_law 969 = .ok (.iadd, 1) := by decide +kernel
theorem dL_law_970 : decode cL_law 970 = .ok (.iaload, 1) := by decide +kernel
theorem dL_law_971 : decode cL_law 971 = .ok (.invokevirtual 127, 3) := by decide +kernel
theorem dL_law_974 : decode cL_law 974 = .ok (.aload_n 2, 1) := by decide +kernel
theorem dL_law_975 : decode cL_law 975 = .ok (.aload_n 0, 1) := by decide +kernel
theorem dL_law_976 : decode cL_law 976 = .ok (.iload 4, 2) := by decide +kernel
theorem dL_law_978 : decode cL_law 978 = .ok (.iconst 1, 1) := by decide +kernel
theorem dL_law_979 : decode cL_law 979 = .ok (.iadd, 1) := by decide +kernel
theorem dL_law_980 : decode cL_law 980 = .ok (.iaload, 1) := by decide +kernel
theorem dL_law_981 : decode cL_law 981 = .ok (.invokevirtual 130, 3) := by decide +kernel
theorem dL_law_984 : decode cL_law 984 = .ok (.if_icmp .eq 129, 3) := by decide +kernel
theorem dL_law_987 : decode cL_law 987 = .ok (.iconst 0, 1) := by decide +kernel
theorem dL_law_988 : decode cL_law 988 = .ok (.ireturn, 1) := by decide +kernel
theorem dL_law_989 : decode cL_law 989 = .ok (.aload_n 1, 1) := by decide +kernel
theorem dL_law_990 : decode cL_law 990 = .ok (.aload_n 0, 1) := by decide +kernel
theorem dL_law_991 : decode cL_law 991 = .ok (.iload 4, 2) := by decide +kernel
theorem dL_law_993 : decode cL_law 993 = .ok (.iconst 1, 1) := by decide +kernel
theorem dL_law_994 : decode cL_law 994 = .ok (.iadd, 1) := by decide +kernel
theorem dL_law_995 : decode cL_law 995 = .ok (.iaload, 1) := by decide +kernel
theorem dL_law_996 : decode cL_law 996 = .ok (.aload_n 0, 1) := by decide +kernel
theorem dL_law_997 : decode cL_law 997 = .ok (.iload 4, 2) := by decide +kernel
theorem dL_law_999 : decode cL_law 999 = .ok (.iconst 2, 1) := by decide +kernel
theorem dL_law_1000 : decode cL_law 1000 = .ok (.iadd, 1) := by decide +kernel
theorem dL_law_1001 : decode cL_law 1001 = .ok (.iaload, 1) := by decide +kernel
theorem dL_law_1002 : decode cL_law 1002 = .ok (.aload_n 3, 1) := by decide +kernel
theorem dL_law_1003 : decode cL_law 1003 = .ok (.invokestatic 131, 3) := by decide +kernel
theorem dL_law_1006 : decode cL_law 1006 = .ok (.istore 5, 2) := by decide +kernel
theorem dL_law_1008 : decode cL_law 1008 = .ok (.aload_n 2, 1) := by decide +kernel
theorem dL_law_1009 : decode cL_law 1009 = .ok (.aload_n 0, 1) := by decide +kernel
theorem dL_law_1010 : decode cL_law 1010 = .ok (.iload 4, 2) := by decide +kernel
theorem dL_law_1012 : decode cL_law 1012 = .ok (.iconst 1, 1) := by decide +kernel
theorem dL_law_1013 : decode cL_law 1013 = .ok (.iadd, 1) := by decide +kernel
theorem dL_law_1014 : decode cL_law 1014 = .ok (.iaload, 1) := by decide +kernel
theorem dL_law_1015 : decode cL_law 1015 = .ok (.aload_n 0, 1) := by decide +kernel
theorem dL_law_1016 : decode cL_law 1016 = .ok (.iload 4, 2) := by decide +kernel
theorem dL_law_1018 : decode cL_law 1018 = .ok (.iconst 2, 1) := by decide +kernel
theorem dL_law_1019 : decode cL_law 1019 = .ok (.iadd, 1) := by decide +kernel
theorem dL_law_1020 : decode cL_law 1020 = .ok (.iaload, 1) := by decide +kernel
theorem dL_law_1021 : decode cL_law 1021 = .ok (.invokevirtual 133, 3) := by decide +kernel
theorem dL_law_1024 : decode cL_law 1024 = .ok (.istore 6, 2) := by decide +kernel
theorem dL_law_1026 : decode cL_law 1026 = .ok (.aload_n 2, 1) := by decide +kernel
theorem dL_law_1027 : decode cL_law 1027 = .ok (.invokevirtual 70, 3) := by decide +kernel
theorem dL_law_1030 : decode cL_law 1030 = .ok (.iload 5, 2) := by decide +kernel
theorem dL_law_1032 : decode cL_law 1032 = .ok (.if_icmp .eq 5, 3) := by decide +kernel
theorem dL_law_1035 : decode cL_law 1035 = .ok (.iconst 0, 1) := by decide +kernel
theorem dL_law_1036 : decode cL_law 1036 = .ok (.ireturn, 1) := by decide +kernel
theorem dL_law_1037 : decode cL_law 1037 = .ok (.iload 5, 2) := by decide +kernel
theorem dL_law_1039 : decode cL_law 1039 = .ok (.ifCond .ne 15, 3) := by decide +kernel
theorem dL_law_1042 : decode cL_law 1042 = .ok (.aload_n 3, 1) := by decide +kernel
theorem dL_law_1043 : decode cL_law 1043 = .ok (.iconst 0, 1) := by decide +kernel
theorem dL_law_1044 : decode cL_law 1044 = .ok (.laload, 1) := by decide +kernel
theorem dL_law_1045 : decode cL_law 1045 = .ok (.iload 6, 2) := by decide +kernel
theorem dL_law_1047 : decode cL_law 1047 = .ok (.i2l, 1) := by decide +kernel
theorem dL_law_1048 : decode cL_law 1048 = .ok (.lcmp, 1) := by decide +kernel
theorem dL_law_1049 : decode cL_law 1049 = .ok (.ifCond .eq 5, 3) := by decide +kernel
theorem dL_law_1052 : decode cL_law 1052 = .ok (.iconst 0, 1) := by decide +kernel
theorem dL_law_1053 : decode cL_law 1053 = .ok (.ireturn, 1) := by decide +kernel
theorem dL_law_1054 : decode cL_law 1054 = .ok (.goto 59, 3) := by decide +kernel
theorem dL_law_1057 : decode cL_law 1057 = .ok (.aload_n 1, 1) := by decide +kernel
theorem dL_law_1058 : decode cL_law 1058 = .ok (.aload_n 0, 1) := by decide +kernel
theorem dL_law_1059 : decode cL_law 1059 = .ok (.iload 4, 2) := by decide +kernel
theorem dL_law_1061 : decode cL_law 1061 = .ok (.iconst 1, 1) := by decide +kernel
theorem dL_law_1062 : decode cL_law 1062 = .ok (.iadd, 1) := by decide +kernel
theorem dL_law_1063 : decode cL_law 1063 = .ok (.iaload, 1) := by decide +kernel
theorem dL_law_1064 : decode cL_law 1064 = .ok (.aload_n 3, 1) := by decide +kernel
theorem dL_law_1065 : decode cL_law 1065 = .ok (.invokestatic 134, 3) := by decide +kernel
theorem dL_law_1068 : decode cL_law 1068 = .ok (.istore 5, 2) := by decide +kernel
theorem dL_law_1070 : decode cL_law 1070 = .ok (.aload_n 2, 1) := by decide +kernel
theorem dL_law_1071 : decode cL_law 1071 = .ok (.aload_n 0, 1) := by decide +kernel
theorem dL_law_1072 : decode cL_law 1072 = .ok (.iload 4, 2) := by decide +kernel
theorem dL_law_1074 : decode cL_law 1074 = .ok (.iconst 1, 1) := by decide +kernel
theorem dL_law_1075 : decode cL_law 1075 = .ok (.iadd, 1) := by decide +kernel
theorem dL_law_1076 : decode cL_law 1076 = .ok (.iaload, 1) := by decide +kernel
theorem dL_law_1077 : decode cL_law 1077 = .ok (.invokevirtual 136, 3) := by decide +kernel
theorem dL_law_1080 : decode cL_law 1080 = .ok (.istore 6, 2) := by decide +kernel
theorem dL_law_1082 : decode cL_law 1082 = .ok (.aload_n 2, 1) := by decide +kernel
theorem dL_law_1083 : decode cL_law 1083 = .ok (.invokevirtual 70, 3) := by decide +kernel
theorem dL_law_1086 : decode cL_law 1086 = .ok (.iload 5, 2) := by decide +kernel
theorem dL_law_1088 : decode cL_law 1088 = .ok (.if_icmp .eq 5, 3) := by decide +kernel
theorem dL_law_1091 : decode cL_law 1091 = .ok (.iconst 0, 1) := by decide +kernel
theorem dL_law_1092 : decode cL_law 1092 = .ok (.ireturn, 1) := by decide +kernel
theorem dL_law_1093 : decode cL_law 1093 = .ok (.iload 5, 2) := by decide +kernel
theorem dL_law_1095 : decode cL_law 1095 = .ok (.ifCond .ne 15, 3) := by decide +kernel
theorem dL_law_1098 : decode cL_law 1098 = .ok (.aload_n 3, 1) := by decide +kernel
theorem dL_law_1099 : decode cL_law 1099 = .ok (.iconst 0, 1) := by decide +kernel
theorem dL_law_1100 : decode cL_law 1100 = .ok (.laload, 1) := by decide +kernel
theorem dL_law_1101 : decode cL_law 1101 = .ok (.iload 6, 2) := by decide +kernel
theorem dL_law_1103 : decode cL_law 1103 = .ok (.i2l, 1) := by decide +kernel
theorem dL_law_1104 : decode cL_law 1104 = .ok (.lcmp, 1) := by decide +kernel
theorem dL_law_1105 : decode cL_law 1105 = .ok (.ifCond .eq 5, 3) := by decide +kernel
theorem dL_law_1108 : decode cL_law 1108 = .ok (.iconst 0, 1) := by decide +kernel
theorem dL_law_1109 : decode cL_law 1109 = .ok (.ireturn, 1) := by decide +kernel
theorem dL_law_1110 : decode cL_law 1110 = .ok (.goto 3, 3) := by decide +kernel
theorem dL_law_1113 : decode cL_law 1113 = .ok (.iinc 4 5, 3) := by decide +kernel
theorem dL_law_1116 : decode cL_law 1116 = .ok (.goto (-1093), 3) := by decide +kernel
theorem dL_law_1119 : decode cL_law 1119 = .ok (.iconst 1, 1) := by decide +kernel
theorem dL_law_1120 : decode cL_law 1120 = .ok (.ireturn, 1) := by decide +kernel
end
section
/-! The base: one list of words for all methods, one world for all of them. -/
def uW : List Cond := lw_tbl.filter goodWord
theorem uW_of {w : Cond} (h : w ∈ lw_tbl) (hg : goodWord w = true) : w ∈ uW := List.mem_filter.mpr ⟨h, hg⟩
theorem uW_in {w : Cond} (h : w ∈ uW) : w ∈ lw_tbl := (List.mem_filter.mp h).1
theorem uW_good {w : Cond} (h : w ∈ uW) : (w.onTables && w.keeps) = true ∨ ∃ ty, w = .arrayClass ty := good_of_word (List.mem_filter.mp h).2
theorem gI_cons {w : Cond} {ws : List Cond} (h : w ∈ uW) (k : GoodIn uW ws) : GoodIn uW (w :: ws) := fun x hx => (List.mem_cons.mp hx).elim (fun e => by rw [e]; exact ⟨h, uW_good h⟩) (k x)
theorem gI_all : GoodIn uW uW := fun _ h => ⟨h, uW_good h⟩
theorem gI_V {own C : String} {ix n : Nat} {y : MethodName} {b : ByteArray} {r : Option FieldType} (h1 : Cond.methodLink own ix y ∈ uW) (h2 : Cond.instanceMethod y ∈ uW) (h3 : Cond.selects C y y ∈ uW) (h4 : Cond.initialized C ∈ uW) (h5 : Cond.code y b n r ∈ uW) : GoodIn uW (wsV own ix C y (Cond.code y b n r :: uW)) :=
  gI_cons h1 (gI_cons h2 (gI_cons h3 (gI_cons h4 (gI_cons h5 gI_all))))
theorem gI_S {own : String} {ix n : Nat} {y : MethodName} {b : ByteArray} {r : Option FieldType} (h1 : Cond.methodLink own ix y ∈ uW) (h2 : Cond.static y ∈ uW) (h3 : Cond.initialized y.cls ∈ uW) (h5 : Cond.code y b n r ∈ uW) : GoodIn uW (va_wsS own ix y (Cond.code y b n r :: uW)) :=
  gI_cons h1 (gI_cons h2 (gI_cons h3 (gI_cons h5 gI_all)))
/-- what stays: class numbers and slots, array classes (byte, int, Frame, Way, long), addresses, the cells that may change -/
abbrev bZ : Type := va_G × (ClassId × ClassId × ClassId × ClassId × ClassId) × (Nat → Nat) × (Nat → Prop)
abbrev zD (z : bZ) : va_G := z.1
abbrev zB (z : bZ) : ClassId := z.2.1.1
abbrev zI (z : bZ) : ClassId := z.2.1.2.1
abbrev zF (z : bZ) : ClassId := z.2.1.2.2.1
abbrev zW (z : bZ) : ClassId := z.2.1.2.2.2.1
abbrev zJ (z : bZ) : ClassId := z.2.1.2.2.2.2
abbrev zad (z : bZ) : Nat → Nat := z.2.2.1
abbrev zA (z : bZ) : Nat → Prop := z.2.2.2
/-- what moves beside numbers: the row of ways, the law's out, the ways' addresses and what they hold -/
abbrev bV : Type := (Nat → Option Nat) × (Nat → Int64) × List Nat × (Nat → va_E)
abbrev bS : Type := bV × (Nat → Int32) × (Nat → Nat → Int32)
abbrev zT (z : bZ) : List (ClassId × FieldType) := [(zB z, .byte), (zI z, .int), (zF z, .object "BandMill$Frame"), (zW z, .object "BandMill$Way"), (zJ z, .long)]
end
section
/-- the cells: the class's 0 .. 26, the reference's 27 .. 52, the law's 53 -/
def gO (z : bZ) (v : bV) (sc : Nat → Int32) (ar : Nat → Nat → Int32) : va_W := [
  (zad z 0, .inr (8, [.ref (zad z 9), .int (sc 0), .ref (zad z 12), .int (sc 1), .ref (zad z 13), .ref (zad z 1), .ref (zad z 4), .int (sc 2)])),
  (zad z 1, .inr (2, [.ref (zad z 2), .ref (zad z 3), .ref (zad z 10)])),
  (zad z 2, .inr (7, [.ref (zad z 11), .int (sc 3), .int (sc 4), .int (sc 5), .int (sc 6), .int (sc 7), .int (sc 8)])),
  (zad z 3, .inr (0, [.ref (zad z 14), .int (sc 9), .ref (zad z 15), .ref (zad z 16), .int (sc 10)])),
  (zad z 4, .inr (6, [.ref (zad z 17), .ref (zad z 18), .int (sc 11), .int (sc 12), .int (sc 13), .int (sc 14)])),
  (zad z 5, .inr (3, [.ref (zad z 19), .ref (zad z 23)])),
  (zad z 6, .inr (3, [.ref (zad z 20), .ref (zad z 24)])),
  (zad z 7, .inr (3, [.ref (zad z 21), .ref (zad z 25)])),
  (zad z 8, .inr (3, [.ref (zad z 22), .ref (zad z 26)])),
  (zad z 9, .inl (zW z, 40, .inr (.inr (.inr (.inr v.1))))),
  (zad z 10, .inl (zF z, 4, .inr (.inr (.inr (.inr (fun i => some (zad z (5 + i)))))))),
  (zad z 11, .inl (zB z, 8000, .inl (ar 11))),
  (zad z 12, .inl (zI z, 400, .inl (ar 12))),
  (zad z 13, .inl (zI z, 400, .inl (ar 13))),
  (zad z 14, .inl (zI z, 512, .inl (ar 14))),
  (zad z 15, .inl (zI z, 400, .inl (ar 15))),
  (zad z 16, .inl (zI z, 400, .inl (ar 16))),
  (zad z 17, .inl (zI z, 401, .inl (ar 17))),
  (zad z 18, .inl (zI z, 401, .inl (ar 18))),
  (zad z 19, .inl (zI z, 51, .inl (ar 19))),
  (zad z 20, .inl (zI z, 51, .inl (ar 20))),
  (zad z 21, .inl (zI z, 51, .inl (ar 21))),
  (zad z 22, .inl (zI z, 51, .inl (ar 22))),
  (zad z 23, .inl (zI z, 400, .inl (ar 23))),
  (zad z 24, .inl (zI z, 400, .inl (ar 24))),
  (zad z 25, .inl (zI z, 400, .inl (ar 25))),
  (zad z 26, .inl (zI z, 400, .inl (ar 26))),
  (zad z 27, .inr (9, [.int (sc 20), .int (sc 21), .ref (zad z 28), .ref (zad z 29), .ref (zad z 30), .ref (zad z 31), .ref (zad z 32), .ref (zad z 33), .int (sc 22), .ref (zad z 34), .int (sc 23), .int (sc 24), .ref (zad z 35), .int (sc 25), .int (sc 26), .int (sc 27), .int (sc 28), .ref (zad z 36), .int (sc 29), .ref (zad z 37), .ref (zad z 38), .ref (zad z 39), .int (sc 30), .ref (zad z 40), .int (sc 31), .ref (zad z 41), .ref (zad z 42), .ref (zad z 43), .ref (zad z 44), .ref (zad z 45), .ref (zad z 46), .ref (zad z 47), .ref (zad z 48), .ref (zad z 49), .ref (zad z 50), .int (sc 32), .int (sc 33), .int (sc 34), .ref (zad z 51), .ref (zad z 52)])),
  (zad z 28, .inl (zI z, 40, .inl (ar 28))),
  (zad z 29, .inl (zI z, 40, .inl (ar 29))),
  (zad z 30, .inl (zI z, 40, .inl (ar 30))),
  (zad z 31, .inl (zI z, 40, .inl (ar 31))),
  (zad z 32, .inl (zI z, 40, .inl (ar 32))),
  (zad z 33, .inl (zI z, 40, .inl (ar 33))),
  (zad z 34, .inl (zI z, 400, .inl (ar 34))),
  (zad z 35, .inl (zI z, 8000, .inl (ar 35))),
  (zad z 36, .inl (zI z, 40000, .inl (ar 36))),
  (zad z 37, .inl (zI z, 80, .inl (ar 37))),
  (zad z 38, .inl (zI z, 80, .inl (ar 38))),
  (zad z 39, .inl (zI z, 80, .inl (ar 39))),
  (zad z 40, .inl (zI z, 400, .inl (ar 40))),
  (zad z 41, .inl (zI z, 8000, .inl (ar 41))),
  (zad z 42, .inl (zI z, 8, .inl (ar 42))),
  (zad z 43, .inl (zI z, 8, .inl (ar 43))),
  (zad z 44, .inl (zI z, 8, .inl (ar 44))),
  (zad z 45, .inl (zI z, 8, .inl (ar 45))),
  (zad z 46, .inl (zI z, 8, .inl (ar 46))),
  (zad z 47, .inl (zI z, 8, .inl (ar 47))),
  (zad z 48, .inl (zI z, 8, .inl (ar 48))),
  (zad z 49, .inl (zI z, 8, .inl (ar 49))),
  (zad z 50, .inl (zI z, 8, .inl (ar 50))),
  (zad z 51, .inl (zI z, 16040, .inl (ar 51))),
  (zad z 52, .inl (zI z, 16040, .inl (ar 52))),
  (zad z 53, .inl (zJ z, 1, .inr (.inl v.2.1)))]
def gW (z : bZ) (v : bV) (sc : Nat → Int32) (ar : Nat → Nat → Int32) : va_W := gO z v sc ar ++ va_pl v.2.2.1 v.2.2.2
def nwF : List Cond := [.fieldLinkNest "BandMill" 115 "BandMill$Tape" "faultPlace" "I" "BandMill", .fieldLinkNest "BandMill" 116 "BandMill$Tape" "fault" "I" "BandMill", .fieldLinkNest "BandMill" 142 "BandMill$RunSearch" "chosenN" "I" "BandMill", .fieldLinkNest "BandMill" 145 "BandMill$RunSearch" "chosenFirst" "I" "BandMill", .fieldLinkNest "BandMill" 148 "BandMill$RunSearch" "chosenOther" "I" "BandMill", .fieldLinkNest "BandMill" 162 "BandMill$Tape" "length" "I" "BandMill", .fieldLinkNest "BandMill" 165 "BandMill$Tape" "readFrom" "I" "BandMill", .fieldLinkNest "BandMill" 191 "BandMill$Tape" "drafted" "I" "BandMill", .fieldLinkNest "BandMill" 99 "BandMill$Desk" "tape" "LBandMill$Tape;" "BandMill", .fieldLinkNest "BandMill$Census" 36 "BandMill$Frame" "line" "[I" "BandMill", .fieldLinkNest "BandMill$Census" 41 "BandMill$Frame" "favourites" "[I" "BandMill", .fieldLinkNest "BandMill$Coding" 31 "BandMill$Desk" "tape" "LBandMill$Tape;" "BandMill", .fieldLinkNest "BandMill$Coding" 41 "BandMill$Tape" "cursor" "I" "BandMill", .fieldLinkNest "BandMill$Popular" 25 "BandMill$Desk" "frames" "[LBandMill$Frame;" "BandMill", .fieldLinkNest "BandMill$Popular" 34 "BandMill$Desk" "census" "LBandMill$Census;" "BandMill", .fieldLinkNest "BandMill$Popular" 44 "BandMill$Frame" "favourites" "[I" "BandMill", .fieldLinkNest "BandMill$Popular" 54 "BandMill$Frame" "line" "[I" "BandMill", .fieldLinkNest "BandMill$Popular" 61 "BandMill$Desk" "tape" "LBandMill$Tape;" "BandMill", .fieldLinkNest "BandMill$Popular" 65 "BandMill$Tape" "cursor" "I" "BandMill"]
def nwM : List Cond := [.methodLinkNest "BandMill" 38 ⟨"BandMill$RunSearch", "<init>", "()V"⟩ "BandMill", .methodLinkNest "BandMill$Desk" 11 ⟨"BandMill$Tape", "<init>", "()V"⟩ "BandMill", .methodLinkNest "BandMill$Desk" 20 ⟨"BandMill$Census", "<init>", "()V"⟩ "BandMill", .methodLinkNest "BandMill$Desk" 31 ⟨"BandMill$Frame", "<init>", "()V"⟩ "BandMill"]
theorem nwF_warm {s U : State} (hW : s.WarmedH U.vm) (h : ∀ w ∈ nwF, va_Nw w s) : ∀ w ∈ nwF, va_Nw w U := by
  unfold nwF at h ⊢
  simp only [List.forall_mem_cons] at h ⊢
  obtain ⟨h0, h1, h2, h3, h4, h5, h6, h7, h8, h9, h10, h11, h12, h13, h14, h15, h16, h17, h18, -⟩ := h
  exact ⟨va_Nw.warmF hW h0, va_Nw.warmF hW h1, va_Nw.warmF hW h2, va_Nw.warmF hW h3, va_Nw.warmF hW h4, va_Nw.warmF hW h5, va_Nw.warmF hW h6, va_Nw.warmF hW h7, va_Nw.warmF hW h8, va_Nw.warmF hW h9, va_Nw.warmF hW h10, va_Nw.warmF hW h11, va_Nw.warmF hW h12, va_Nw.warmF hW h13, va_Nw.warmF hW h14, va_Nw.warmF hW h15, va_Nw.warmF hW h16, va_Nw.warmF hW h17, va_Nw.warmF hW h18, fun _ h => nomatch h⟩
theorem nwM_warm {s U : State} (hW : s.WarmedH U.vm) (h : ∀ w ∈ nwM, va_Nw w s) : ∀ w ∈ nwM, va_Nw w U := by
  unfold nwM at h ⊢
  simp only [List.forall_mem_cons] at h ⊢
  obtain ⟨h0, h1, h2, h3, -⟩ := h
  exact ⟨va_Nw.warmM hW h0, va_Nw.warmM hW h1, va_Nw.warmM hW h2, va_Nw.warmM hW h3, fun _ h => nomatch h⟩
def nwD : List Cond := [.declares ⟨"BandMill$Way", "write", "(LBandMill$Desk;[III)Z"⟩, .declares ⟨"BandMill$Way", "read", "(LBandMill$Desk;[III)Z"⟩]
def nwC : List Cond := [.castable "BandMill$Coding" "BandMill$Way", .castable "BandMill$Popular" "BandMill$Way", .castable "BandMill$Run" "BandMill$Way"]
theorem nwD_warm {s U : State} (hW : s.WarmedH U.vm) (h : ∀ w ∈ nwD, va_Nw w s) : ∀ w ∈ nwD, va_Nw w U := by
  unfold nwD at h ⊢
  simp only [List.forall_mem_cons] at h ⊢
  obtain ⟨h0, h1, -⟩ := h
  exact ⟨va_Nw.warmD hW h0, va_Nw.warmD hW h1, fun _ h => nomatch h⟩
theorem nwC_warm {s U : State} (hW : s.WarmedH U.vm) (h : ∀ w ∈ nwC, va_Nw w s) : ∀ w ∈ nwC, va_Nw w U := by
  unfold nwC at h ⊢
  simp only [List.forall_mem_cons] at h ⊢
  obtain ⟨h0, h1, h2, -⟩ := h
  exact ⟨va_Nw.warmC hW h0, va_Nw.warmC hW h1, va_Nw.warmC hW h2, fun _ h => nomatch h⟩
theorem nwD_tab : ∀ w ∈ nwD, w.onTables = true := by decide +kernel
theorem nwC_tab : ∀ w ∈ nwC, w.onTables = true := by decide +kernel
theorem nwF_tab : ∀ w ∈ nwF, w.onTables = true := by decide +kernel
theorem nwM_tab : ∀ w ∈ nwM, w.onTables = true := by decide +kernel
end
section
def strL : List (Nat × String) := [(153, "chosen tells 0 .. 2"), (178, "about tells 0 .. 3"), (180, "a number is not as it may be"), (182, "there are 40 ways"), (184, "the way would be too deep"), (186, "the tape would be too long"), (88, "the row is full")]
/-- what holds of the machine around at every call -/
def EV (z : bZ) (U : State) : Prop := va_K (zD z) vwCl (zT z) U ∧ (∀ q, U.heap.size ≤ q → zA z q) ∧ (∀ w ∈ nwF, va_Nw w U) ∧ (∀ w ∈ nwM, va_Nw w U) ∧ (va_Nc RX4 RX1 U ∧ va_Nc RX5 RX1 U) ∧ (vx_Zq Bundle.tN "UNASSIGNED_STACK" Bundle.steD (zA z) U U.heap ∧ vx_Zq Bundle.tN "SUPPRESSED_SENTINEL" Bundle.listD (zA z) U U.heap) ∧ (∀ q ∈ strL, ∃ a, vk_R RX9 q.1 q.2 a U) ∧ (∀ w ∈ nwD, va_Nw w U) ∧ (∀ w ∈ nwC, va_Nw w U) ∧ va_AO "BandMill$Way" U ∧ va_AO "BandMill$Frame" U
theorem EV.frame {z : bZ} {U : State} {g : JFrame} {mk : MethodId} {a : Array Value} (h : EV z U) : EV z (U.calling g mk a) := by
  obtain ⟨h1, h2, h3, h4, ⟨h5, h6⟩, ⟨h7, h8⟩, h9, h10, h11, h12, h13⟩ := h
  have hv : U.vm = (U.calling g mk a).vm := rfl
  have ha : U.vm.Alike (U.calling g mk a).vm := Vm.Alike.refl U.vm
  refine ⟨va_K.moved ha h1, h2, fun w hw => va_Nw.same (nwF_tab w hw) hv (h3 w hw), fun w hw => va_Nw.same (nwM_tab w hw) hv (h4 w hw), ⟨h5.moved ha, h6.moved ha⟩, ⟨h7.moved ha, h8.moved ha⟩, fun q hq => ?_, fun w hw => va_Nw.same (nwD_tab w hw) hv (h10 w hw), fun w hw => va_Nw.same (nwC_tab w hw) hv (h11 w hw), h12.moved ha, h13.moved ha⟩
  obtain ⟨x, hx⟩ := h9 q hq
  exact ⟨x, vk_R.same hv.symm hx⟩
theorem EV.call {z : bZ} {s U : State} {H : Heap} {locs : List Loc} (h : EV z s) (hS : va_S (zA z) s.heap H locs) (hU : U.heap = H) (hW : s.WarmedH U.vm) : EV z U := by
  obtain ⟨h1, h2, h3, h4, ⟨h5, h6⟩, ⟨h7, h8⟩, h9, h10, h11, h12, h13⟩ := h
  refine ⟨va_K.moved hW.alike h1, fun q hq => h2 q (by rw [hU] at hq; exact Nat.le_trans hS.1 hq), nwF_warm hW h3, nwM_warm hW h4, ⟨h5.moved hW.alike, h6.moved hW.alike⟩, ⟨?_, ?_⟩, fun q hq => ?_, nwD_warm hW h10, nwC_warm hW h11, h12.moved hW.alike, h13.moved hW.alike⟩
  · rw [hU]; exact (h7.kept hS.2.1).moved hW.alike
  · rw [hU]; exact (h8.kept hS.2.1).moved hW.alike
  · obtain ⟨x, hx⟩ := h9 q hq
    exact ⟨x, vk_R.warm hW hx⟩
/-- the heap holds the world -/
def hI (z : bZ) (v : bV) (sc : Nat → Int32) (ar : Nat → Nat → Int32) (H : Heap) : Prop := va_P (zD z) vwCl (gW z v sc ar) H ∧ va_D (zA z) (gW z v sc ar)
/-- .. and since the method's start nothing but what it may has changed -/
def hH (z : bZ) (v : bV) (sc : Nat → Int32) (ar : Nat → Nat → Int32) (s : State) (H : Heap) (locs : List Loc) : Prop := hI z v sc ar H ∧ va_S (zA z) s.heap H locs
abbrev pC (z : bZ) (v : bV) (sc : Nat → Int32) (ar : Nat → Nat → Int32) (av : List Value) : Array Value → State → Prop := va_Pc av (fun U => EV z U ∧ hI z v sc ar U.heap)
abbrev bB (z : bZ) (u : bS) (t : State) : Prop := hI z u.1 u.2.1 u.2.2 t.heap
abbrev qI (z : bZ) (post : Int32 → bS → Prop) : Array Value → State → Outcome → State → Prop := va_Qi post (bB z) (zA z)
abbrev qL (z : bZ) (post : Int64 → bS → Prop) : Array Value → State → Outcome → State → Prop := va_Ql post (bB z) (zA z)
abbrev qV (z : bZ) (post : bS → Prop) : Array Value → State → Outcome → State → Prop := va_Qv post (bB z) (zA z)
theorem pC_blind {z : bZ} {v : bV} {sc : Nat → Int32} {ar : Nat → Nat → Int32} {av : List Value} : FrameBlind (pC z v sc ar av) := fun _ _ _ _ h => ⟨h.1, h.2.1.frame, h.2.2⟩
abbrev cX (z : bZ) (p : Program) (m : MethodId) (c : Code) (cc : ByteArray) (nL : Nat) (s : State) (args : Array Value) (own : String) : Prop := CallFix p m c cc nL s args uW own ∧ EV z s
section BASE
variable {p : Program} {l : Launch} {e : Env} {R : Room} {s : State} {m : MethodId} {args : Array Value} {below : List Frame} {meth : Method} {c : Code} {H : Heap} {locs : List Loc} {cells slots : Nat} {Q : State → Prop}
variable {z : bZ} {v : bV} {sc : Nat → Int32} {ar : Nat → Nat → Int32} {cc : ByteArray} {nL : Nat} {own : String} {pc : Nat} {ls : Array Slot} {rest : List Value}
/-- a method's contract out of its walk -/
theorem eM {y : MethodName} {ret : Option FieldType} {rm : Room} {av : List Value} {Qc : Array Value → State → Outcome → State → Prop} {mc ms : Nat} (hy : plainName y.cls = true) (hav : (lg_sl av).length ≤ nL)
    (body : ∀ (p : Program) (e : Env) (s : State) (m : MethodId) (below : List Frame) (meth : Method) (c : Code) (ls : Array Slot), cX z p m c cc nL s av.toArray y.cls → meth.sig.returnType = ret → meth.locks = false → hH z v sc ar s s.heap [] → lv_has ls nL (lv_args 0 av) →
      W p l e rm s m av.toArray below meth c s.heap [] 0 0 (MQ below Qc av.toArray s mc ms (zA z)) (F0 m 0 ls [])) : Met l y (Cond.code y cc nL ret :: uW) rm (pC z v sc ar av) Qc mc ms (zA z) := by
  refine Met.ofW (cc := cc) (maxL := nL) (ret := ret) hy rfl ?_
  intro p e s m args below meth c s₁ B hml hv
  obtain ⟨rfl, hE, hh⟩ := hv
  have hts := atoms_spec (ws := Cond.code y cc nL ret :: uW) B.pre
  have hl := lv_entry av (n := nL) hav
  rw [lg_entry_eq]
  exact body p e s m below meth c _ ⟨⟨B.exec, B.bytes, hml, findClass_of_methodNamed B.named, fun w hw => hts w (List.mem_cons_of_mem _ hw)⟩, hE⟩ B.returns B.notSynchronized ⟨hh, va_S.rf⟩ hl
/-- a number on the stack, in other words -/
theorem tI {x y : Int32} (h : x = y) (k : W p l e R s m args below meth c H locs cells slots Q (F0 m pc ls (.int y :: rest))) : W p l e R s m args below meth c H locs cells slots Q (F0 m pc ls (.int x :: rest)) := h ▸ k
theorem tL {x y : Int64} (h : x = y) (k : W p l e R s m args below meth c H locs cells slots Q (F0 m pc ls (.long y :: rest))) : W p l e R s m args below meth c H locs cells slots Q (F0 m pc ls (.long x :: rest)) := h ▸ k
theorem rI {post : Int32 → bS → Prop} {x : Int32} {mc ms : Nat} (C : cX z p m c cc nL s args own) (hr : meth.sig.returnType = some .int) (hlk : meth.locks = false) (h : hH z v sc ar s H locs) (hd : decode cc pc = .ok (.ireturn, 1)) (hc : cells ≤ mc) (hs : slots ≤ ms) (hp : post x (v, sc, ar)) : W p l e R s m args below meth c H locs cells slots (MQ below (qI z post) args s mc ms (zA z)) (F0 m pc ls [.int x]) :=
  W.widen hc hs (W.iret C.1.1 C.1.2.1 hr (fun t ht _ => ⟨⟨x, (v, sc, ar), rfl, hp, by show hI z v sc ar t.heap; rw [ht]; exact h.1⟩, h.2.F ht⟩) h.2.2.2 hd hlk)
theorem rZ {post : Int32 → bS → Prop} {x : Int32} {mc ms : Nat} (C : cX z p m c cc nL s args own) (hr : meth.sig.returnType = some .boolean) (hlk : meth.locks = false) (h : hH z v sc ar s H locs) (hd : decode cc pc = .ok (.ireturn, 1)) (hn : narrow .boolean (.int x) = .int x) (hc : cells ≤ mc) (hs : slots ≤ ms) (hp : post x (v, sc, ar)) : W p l e R s m args below meth c H locs cells slots (MQ below (qI z post) args s mc ms (zA z)) (F0 m pc ls [.int x]) :=
  W.widen hc hs (W.zret C.1.1 C.1.2.1 hr hn (fun t ht _ => ⟨⟨x, (v, sc, ar), rfl, hp, by show hI z v sc ar t.heap; rw [ht]; exact h.1⟩, h.2.F ht⟩) h.2.2.2 hd hlk)
theorem rL {post : Int64 → bS → Prop} {x : Int64} {mc ms : Nat} (C : cX z p m c cc nL s args own) (hr : meth.sig.returnType = some .long) (hlk : meth.locks = false) (h : hH z v sc ar s H locs) (hd : decode cc pc = .ok (.lreturn, 1)) (hc : cells ≤ mc) (hs : slots ≤ ms) (hp : post x (v, sc, ar)) : W p l e R s m args below meth c H locs cells slots (MQ below (qL z post) args s mc ms (zA z)) (F0 m pc ls [.long x]) :=
  W.widen hc hs (W.lret C.1.1 C.1.2.1 hr (fun t ht _ => ⟨⟨x, (v, sc, ar), rfl, hp, by show hI z v sc ar t.heap; rw [ht]; exact h.1⟩, h.2.F ht⟩) h.2.2.2 hd hlk)
theorem rV {post : bS → Prop} {mc ms : Nat} (C : cX z p m c cc nL s args own) (hr : meth.sig.returnType = none) (hlk : meth.locks = false) (h : hH z v sc ar s H locs) (hd : decode cc pc = .ok (.return_, 1)) (hc : cells ≤ mc) (hs : slots ≤ ms) (hp : post (v, sc, ar)) : W p l e R s m args below meth c H locs cells slots (MQ below (qV z post) args s mc ms (zA z)) (F0 m pc ls []) :=
  W.widen hc hs (W.vret C.1.1 C.1.2.1 hr (fun t ht _ => ⟨⟨(v, sc, ar), rfl, hp, by show hI z v sc ar t.heap; rw [ht]; exact h.1⟩, h.2.F ht⟩) h.2.2.2 hd hlk)
-- calls of methods that return: by the receiver, and static ones
section CALLS
variable {y : MethodName} {bytes : ByteArray} {maxL mc ms n ix : Nat} {ret : Option FieldType} {rm : Room} {Cn : String} {b : Nat} {As : List Value}
theorem preV (C : cX z p m c cc nL s args own) (h : hH z v sc ar s H locs) (hb : ∃ cell : Cell, H[b]? = some cell ∧ cell.vm.isStatics = false ∧ s.vm.findClass Cn = some cell.cls) : PreV s H Cn b (pC z v sc ar (.ref b :: As)) As :=
  ⟨pC_blind, hb, fun _ hU hW => ⟨rfl, C.2.call h.2 hU hW, by rw [hU]; exact h.1⟩⟩
theorem preS (C : cX z p m c cc nL s args own) (h : hH z v sc ar s H locs) : PreS s H (pC z v sc ar As) As :=
  ⟨pC_blind, fun _ hU hW => ⟨rfl, C.2.call h.2 hU hW, by rw [hU]; exact h.1⟩⟩
/-- how a call comes back -/
theorem backI {post : Int32 → bS → Prop} {a : Array Value} {st0 : List Value} (h : hH z v sc ar s H locs) (hr : va_Run p l e R s m args below meth c H locs cells slots mc ms (F0 m pc ls st0) rest (qI z post a) (zA z))
    (kk : ∀ (r : Int32) (v' : bV) (sc' : Nat → Int32) (ar' : Nat → Nat → Int32) (H' : Heap) (locs' : List Loc), post r (v', sc', ar') → hH z v' sc' ar' s H' locs' → W p l e R s m args below meth c H' locs' (cells + mc) (slots + ms) Q (F0 m (pc + 3) ls (.int r :: rest))) : W p l e R s m args below meth c H locs cells slots Q (F0 m pc ls st0) :=
  va_calli hr h.2 (fun _ _ q => q) (fun _ q => q) (fun r u t H1 locs1 ht _ hp hB _ _ hS => kk r u.1 u.2.1 u.2.2 H1 locs1 hp ⟨by rw [← ht]; exact hB, hS⟩)
theorem backL {post : Int64 → bS → Prop} {a : Array Value} {st0 : List Value} (h : hH z v sc ar s H locs) (hr : va_Run p l e R s m args below meth c H locs cells slots mc ms (F0 m pc ls st0) rest (qL z post a) (zA z))
    (kk : ∀ (r : Int64) (v' : bV) (sc' : Nat → Int32) (ar' : Nat → Nat → Int32) (H' : Heap) (locs' : List Loc), post r (v', sc', ar') → hH z v' sc' ar' s H' locs' → W p l e R s m args below meth c H' locs' (cells + mc) (slots + ms) Q (F0 m (pc + 3) ls (.long r :: rest))) : W p l e R s m args below meth c H locs cells slots Q (F0 m pc ls st0) :=
  va_calll hr h.2 (fun _ _ q => q) (fun _ q => q) (fun r u t H1 locs1 ht _ hp hB _ _ hS => kk r u.1 u.2.1 u.2.2 H1 locs1 hp ⟨by rw [← ht]; exact hB, hS⟩)
theorem backV {post : bS → Prop} {a : Array Value} {st0 : List Value} (h : hH z v sc ar s H locs) (hr : va_Run p l e R s m args below meth c H locs cells slots mc ms (F0 m pc ls st0) rest (qV z post a) (zA z))
    (kk : ∀ (v' : bV) (sc' : Nat → Int32) (ar' : Nat → Nat → Int32) (H' : Heap) (locs' : List Loc), post (v', sc', ar') → hH z v' sc' ar' s H' locs' → W p l e R s m args below meth c H' locs' (cells + mc) (slots + ms) Q (F0 m (pc + 3) ls rest)) : W p l e R s m args below meth c H locs cells slots Q (F0 m pc ls st0) :=
  va_callv hr h.2 (fun _ _ q => q) (fun _ q => q) (fun u t H1 locs1 ht _ hp hB _ _ hS => kk u.1 u.2.1 u.2.2 H1 locs1 hp ⟨by rw [← ht]; exact hB, hS⟩)
abbrev okN (y : MethodName) (n : Nat) : Prop := y.cls ≠ "java/lang/invoke/MethodHandle" ∧ y.cls ≠ "java/lang/invoke/VarHandle" ∧ (parseMethodDescriptor y.desc).map (fun d => d.parameters.length) = some n
theorem runV {Qc : Array Value → State → Outcome → State → Prop} (C : cX z p m c cc nL s args own) (h : hH z v sc ar s H locs) (hM : Met l y (Cond.code y bytes maxL ret :: uW) rm (pC z v sc ar (.ref b :: As)) Qc mc ms (zA z)) (hG : GoodIn uW (wsV own ix y.cls y (Cond.code y bytes maxL ret :: uW))) (hd : okN y n)
    (hrm : rm.cells = mc ∧ rm.slots = ms) (hb : ∃ cell : Cell, H[b]? = some cell ∧ cell.vm.isStatics = false ∧ s.vm.findClass y.cls = some cell.cls) (hn : As.length = n) (hl : ls.size = nL) {st0 : List Value} (hst : st0 = As.reverse ++ .ref b :: rest) (hW : (rest.map fun v => v.category).sum ≤ 8) (hdg : decode cc pc = .ok (.invokevirtual ix, 3))
    (hR : rm.frames + 1 ≤ R.frames ∧ 8 + (maxL + 11) + rm.locals ≤ R.locals) (hf : cells + mc ≤ R.cells ∧ slots + ms ≤ R.slots) : va_Run p l e R s m args below meth c H locs cells slots mc ms (F0 m pc ls st0) rest (Qc (Value.ref b :: As).toArray) (zA z) :=
  va_runV C.1 hM (cwV n C.1.2.2.2.2 hG rfl hrm.1 hrm.2 ⟨rfl, hd⟩ hR) (preV C h hb) rfl hn hl hst (lv_room (m := m) (pc := pc) (ls := ls) (rest := st0) hW) hdg hf
theorem runS {Qc : Array Value → State → Outcome → State → Prop} (C : cX z p m c cc nL s args own) (h : hH z v sc ar s H locs) (hM : Met l y (Cond.code y bytes maxL ret :: uW) rm (pC z v sc ar As) Qc mc ms (zA z)) (hG : GoodIn uW (va_wsS own ix y (Cond.code y bytes maxL ret :: uW))) (hd : okN y n)
    (hrm : rm.cells = mc ∧ rm.slots = ms) (hn : As.length = n) (hl : ls.size = nL) {st0 : List Value} (hst : st0 = As.reverse ++ rest) (hW : (rest.map fun v => v.category).sum ≤ 8) (hdg : decode cc pc = .ok (.invokestatic ix, 3))
    (hR : rm.frames + 1 ≤ R.frames ∧ 8 + (maxL + 11) + rm.locals ≤ R.locals) (hf : cells + mc ≤ R.cells ∧ slots + ms ≤ R.slots) : va_Run p l e R s m args below meth c H locs cells slots mc ms (F0 m pc ls st0) rest (Qc As.toArray) (zA z) :=
  va_runS C.1 hM (va_cwS n C.1.2.2.2.2 hG rfl hrm.1 hrm.2 hd hR) (preS C h) rfl hn hl hst (lv_room (m := m) (pc := pc) (ls := ls) (rest := st0) hW) hdg hf
theorem gI_U {own C owner : String} {ix n : Nat} {x y : MethodName} {b : ByteArray} {r : Option FieldType} (h1 : Cond.methodLink own ix x ∈ uW) (h2 : Cond.sameMethod x.cls owner x.name x.desc ∈ uW) (h3 : Cond.selects C x y ∈ uW) (h4 : Cond.instanceMethod y ∈ uW) (h5 : Cond.initialized y.cls ∈ uW) (h6 : Cond.code y b n r ∈ uW) : GoodIn uW (va_wsU own ix C owner x y (Cond.code y b n r :: uW)) :=
  gI_cons h1 (gI_cons h2 (gI_cons h3 (gI_cons h4 (gI_cons h5 (gI_cons h6 gI_all)))))
theorem runA {Qc : Array Value → State → Outcome → State → Prop} {x : MethodName} {owner : String} (C : cX z p m c cc nL s args own) (h : hH z v sc ar s H locs) (hM : Met l y (Cond.code y bytes maxL ret :: uW) rm (pC z v sc ar (.ref b :: As)) Qc mc ms (zA z)) (hG : GoodIn uW (va_wsU own ix y.cls owner x y (Cond.code y bytes maxL ret :: uW))) (hz : va_Nw (.declares ⟨owner, x.name, x.desc⟩) s)
    (hd : owner ≠ "java/lang/invoke/MethodHandle" ∧ owner ≠ "java/lang/invoke/VarHandle" ∧ (parseMethodDescriptor x.desc).map (fun d => d.parameters.length) = some n)
    (hrm : rm.cells = mc ∧ rm.slots = ms) (hb : ∃ cell : Cell, H[b]? = some cell ∧ cell.vm.isStatics = false ∧ s.vm.findClass y.cls = some cell.cls) (hn : As.length = n) (hl : ls.size = nL) {st0 : List Value} (hst : st0 = As.reverse ++ .ref b :: rest) (hW : (rest.map fun v => v.category).sum ≤ 8) (hdg : decode cc pc = .ok (.invokevirtual ix, 3))
    (hR : rm.frames + 1 ≤ R.frames ∧ 8 + (maxL + 11) + rm.locals ≤ R.locals) (hf : cells + mc ≤ R.cells ∧ slots + ms ≤ R.slots) : va_Run p l e R s m args below meth c H locs cells slots mc ms (F0 m pc ls st0) rest (Qc (Value.ref b :: As).toArray) (zA z) :=
  va_runU C.1 hM (va_cwA n C.1.2.2.2.2 hG rfl hrm.1 hrm.2 hz hd hR) (preV C h hb) rfl hn hl hst (lv_room (m := m) (pc := pc) (ls := ls) (rest := st0) hW) hdg hf
end CALLS
end BASE
end
section
theorem iX0 : ∀ w ∈ wsX00, w ∈ uW := by decide +kernel
theorem iX1 : ∀ w ∈ wsX10, w ∈ uW := by decide +kernel
theorem iX2 : ∀ w ∈ wsX20, w ∈ uW := by decide +kernel
theorem iX3 : ∀ w ∈ wsX30, w ∈ uW := by decide +kernel
theorem iX4 : ∀ w ∈ wsX40, w ∈ uW := by decide +kernel
theorem iX5 : ∀ w ∈ wsX50, w ∈ uW := by decide +kernel
theorem iX6 : ∀ w ∈ wsX60, w ∈ uW := by decide +kernel
theorem iX7 : ∀ w ∈ wsX70, w ∈ uW := by decide +kernel
theorem iX9 : ∀ w ∈ wsX90, w ∈ uW := by decide +kernel
theorem iX10 : ∀ w ∈ wsX100, w ∈ uW := by decide +kernel
theorem uw_X0_11 : Cond.fieldLink RX0 11 "BandMill$Census" "slots" "[I" ∈ uW := uW_of (by decide +kernel) rfl
theorem uw_X0_15 : Cond.fieldLink RX0 15 "BandMill$Census" "bits" "I" ∈ uW := uW_of (by decide +kernel) rfl
theorem uw_X0_19 : Cond.fieldLink RX0 19 "BandMill$Census" "kinds" "[I" ∈ uW := uW_of (by decide +kernel) rfl
theorem uw_X0_22 : Cond.fieldLink RX0 22 "BandMill$Census" "tallies" "[I" ∈ uW := uW_of (by decide +kernel) rfl
theorem uw_X0_25 : Cond.fieldLink RX0 25 "BandMill$Census" "kindCount" "I" ∈ uW := uW_of (by decide +kernel) rfl
theorem uw_X10_7 : Cond.fieldLink RX10 7 "BandMillModel" "sort" "[I" ∈ uW := uW_of (by decide +kernel) rfl
theorem uw_X10_13 : Cond.fieldLink RX10 13 "BandMillModel" "one" "[I" ∈ uW := uW_of (by decide +kernel) rfl
theorem uw_X10_16 : Cond.fieldLink RX10 16 "BandMillModel" "two" "[I" ∈ uW := uW_of (by decide +kernel) rfl
theorem uw_X10_19 : Cond.fieldLink RX10 19 "BandMillModel" "three" "[I" ∈ uW := uW_of (by decide +kernel) rfl
theorem uw_X10_22 : Cond.fieldLink RX10 22 "BandMillModel" "four" "[I" ∈ uW := uW_of (by decide +kernel) rfl
theorem uw_X10_25 : Cond.fieldLink RX10 25 "BandMillModel" "depth" "[I" ∈ uW := uW_of (by decide +kernel) rfl
theorem uw_X10_28 : Cond.fieldLink RX10 28 "BandMillModel" "row" "[I" ∈ uW := uW_of (by decide +kernel) rfl
theorem uw_X10_31 : Cond.fieldLink RX10 31 "BandMillModel" "tape" "[I" ∈ uW := uW_of (by decide +kernel) rfl
theorem uw_X10_34 : Cond.fieldLink RX10 34 "BandMillModel" "place" "I" ∈ uW := uW_of (by decide +kernel) rfl
theorem uw_X10_38 : Cond.fieldLink RX10 38 "BandMillModel" "chosenN" "I" ∈ uW := uW_of (by decide +kernel) rfl
theorem uw_X10_41 : Cond.fieldLink RX10 41 "BandMillModel" "chosenFirst" "I" ∈ uW := uW_of (by decide +kernel) rfl
theorem uw_X10_44 : Cond.fieldLink RX10 44 "BandMillModel" "chosenOther" "I" ∈ uW := uW_of (by decide +kernel) rfl
theorem uw_X10_48 : Cond.fieldLink RX10 48 "BandMillModel" "pool" "[I" ∈ uW := uW_of (by decide +kernel) rfl
theorem uw_X10_51 : Cond.fieldLink RX10 51 "BandMillModel" "taskWay" "[I" ∈ uW := uW_of (by decide +kernel) rfl
theorem uw_X10_54 : Cond.fieldLink RX10 54 "BandMillModel" "taskFirst" "[I" ∈ uW := uW_of (by decide +kernel) rfl
theorem uw_X10_57 : Cond.fieldLink RX10 57 "BandMillModel" "taskMany" "[I" ∈ uW := uW_of (by decide +kernel) rfl
theorem uw_X10_60 : Cond.fieldLink RX10 60 "BandMillModel" "often" "[I" ∈ uW := uW_of (by decide +kernel) rfl
theorem uw_X10_63 : Cond.fieldLink RX10 63 "BandMillModel" "out" "[I" ∈ uW := uW_of (by decide +kernel) rfl
theorem uw_X10_66 : Cond.fieldLink RX10 66 "BandMillModel" "inWay" "[I" ∈ uW := uW_of (by decide +kernel) rfl
theorem uw_X10_69 : Cond.fieldLink RX10 69 "BandMillModel" "inMany" "[I" ∈ uW := uW_of (by decide +kernel) rfl
theorem uw_X10_72 : Cond.fieldLink RX10 72 "BandMillModel" "inTo" "[I" ∈ uW := uW_of (by decide +kernel) rfl
theorem uw_X10_75 : Cond.fieldLink RX10 75 "BandMillModel" "inState" "[I" ∈ uW := uW_of (by decide +kernel) rfl
theorem uw_X10_78 : Cond.fieldLink RX10 78 "BandMillModel" "inRow" "[I" ∈ uW := uW_of (by decide +kernel) rfl
theorem uw_X10_81 : Cond.fieldLink RX10 81 "BandMillModel" "inFavourites" "[I" ∈ uW := uW_of (by decide +kernel) rfl
theorem uw_X10_84 : Cond.fieldLink RX10 84 "BandMillModel" "inTokens" "[I" ∈ uW := uW_of (by decide +kernel) rfl
theorem uw_X10_87 : Cond.fieldLink RX10 87 "BandMillModel" "inOthers" "[I" ∈ uW := uW_of (by decide +kernel) rfl
theorem uw_X10_90 : Cond.fieldLink RX10 90 "BandMillModel" "inByte" "[I" ∈ uW := uW_of (by decide +kernel) rfl
theorem uw_X10_93 : Cond.fieldLink RX10 93 "BandMillModel" "ahead" "[I" ∈ uW := uW_of (by decide +kernel) rfl
theorem uw_X10_96 : Cond.fieldLink RX10 96 "BandMillModel" "behind" "[I" ∈ uW := uW_of (by decide +kernel) rfl
theorem uw_X10_99 : Cond.fieldLink RX10 99 "BandMillModel" "code" "I" ∈ uW := uW_of (by decide +kernel) rfl
theorem uw_X10_102 : Cond.fieldLink RX10 102 "BandMillModel" "ways" "I" ∈ uW := uW_of (by decide +kernel) rfl
theorem uw_X10_120 : Cond.fieldLink RX10 120 "BandMillModel" "many" "I" ∈ uW := uW_of (by decide +kernel) rfl
theorem uw_X10_141 : Cond.fieldLink RX10 141 "BandMillModel" "written" "I" ∈ uW := uW_of (by decide +kernel) rfl
theorem uw_X10_144 : Cond.fieldLink RX10 144 "BandMillModel" "tasks" "I" ∈ uW := uW_of (by decide +kernel) rfl
theorem uw_X10_147 : Cond.fieldLink RX10 147 "BandMillModel" "used" "I" ∈ uW := uW_of (by decide +kernel) rfl
theorem uw_X10_168 : Cond.fieldLink RX10 168 "BandMillModel" "length" "I" ∈ uW := uW_of (by decide +kernel) rfl
theorem uw_X10_171 : Cond.fieldLink RX10 171 "BandMillModel" "fault" "I" ∈ uW := uW_of (by decide +kernel) rfl
theorem uw_X10_174 : Cond.fieldLink RX10 174 "BandMillModel" "faultAt" "I" ∈ uW := uW_of (by decide +kernel) rfl
theorem uw_X10_177 : Cond.fieldLink RX10 177 "BandMillModel" "at" "I" ∈ uW := uW_of (by decide +kernel) rfl
theorem uw_X10_186 : Cond.fieldLink RX10 186 "BandMillModel" "reading" "I" ∈ uW := uW_of (by decide +kernel) rfl
theorem uw_X2_12 : Cond.fieldLink RX2 12 "BandMill$Desk" "tape" "LBandMill$Tape;" ∈ uW := uW_of (by decide +kernel) rfl
theorem uw_X2_21 : Cond.fieldLink RX2 21 "BandMill$Desk" "census" "LBandMill$Census;" ∈ uW := uW_of (by decide +kernel) rfl
theorem uw_X2_27 : Cond.fieldLink RX2 27 "BandMill$Desk" "frames" "[LBandMill$Frame;" ∈ uW := uW_of (by decide +kernel) rfl
theorem uw_X6_9 : Cond.fieldLink RX6 9 "BandMill$RunSearch" "heads" "[I" ∈ uW := uW_of (by decide +kernel) rfl
theorem uw_X6_15 : Cond.fieldLink RX6 15 "BandMill$RunSearch" "tails" "[I" ∈ uW := uW_of (by decide +kernel) rfl
theorem uw_X6_18 : Cond.fieldLink RX6 18 "BandMill$RunSearch" "count" "I" ∈ uW := uW_of (by decide +kernel) rfl
theorem uw_X6_22 : Cond.fieldLink RX6 22 "BandMill$RunSearch" "chosenN" "I" ∈ uW := uW_of (by decide +kernel) rfl
theorem uw_X6_25 : Cond.fieldLink RX6 25 "BandMill$RunSearch" "chosenFirst" "I" ∈ uW := uW_of (by decide +kernel) rfl
theorem uw_X6_28 : Cond.fieldLink RX6 28 "BandMill$RunSearch" "chosenOther" "I" ∈ uW := uW_of (by decide +kernel) rfl
theorem uw_X7_9 : Cond.fieldLink RX7 9 "BandMill$Tape" "bytes" "[B" ∈ uW := uW_of (by decide +kernel) rfl
theorem uw_X7_15 : Cond.fieldLink RX7 15 "BandMill$Tape" "length" "I" ∈ uW := uW_of (by decide +kernel) rfl
theorem uw_X7_19 : Cond.fieldLink RX7 19 "BandMill$Tape" "readFrom" "I" ∈ uW := uW_of (by decide +kernel) rfl
theorem uw_X7_22 : Cond.fieldLink RX7 22 "BandMill$Tape" "drafted" "I" ∈ uW := uW_of (by decide +kernel) rfl
theorem uw_X7_25 : Cond.fieldLink RX7 25 "BandMill$Tape" "cursor" "I" ∈ uW := uW_of (by decide +kernel) rfl
theorem uw_X7_28 : Cond.fieldLink RX7 28 "BandMill$Tape" "fault" "I" ∈ uW := uW_of (by decide +kernel) rfl
theorem uw_X7_31 : Cond.fieldLink RX7 31 "BandMill$Tape" "faultPlace" "I" ∈ uW := uW_of (by decide +kernel) rfl
theorem uw_X9_11 : Cond.fieldLink RX9 11 "BandMill" "ways" "[LBandMill$Way;" ∈ uW := uW_of (by decide +kernel) rfl
theorem uw_X9_15 : Cond.fieldLink RX9 15 "BandMill" "wayCount" "I" ∈ uW := uW_of (by decide +kernel) rfl
theorem uw_X9_19 : Cond.fieldLink RX9 19 "BandMill" "numbers" "[I" ∈ uW := uW_of (by decide +kernel) rfl
theorem uw_X9_23 : Cond.fieldLink RX9 23 "BandMill" "numberCount" "I" ∈ uW := uW_of (by decide +kernel) rfl
theorem uw_X9_26 : Cond.fieldLink RX9 26 "BandMill" "unpacked" "[I" ∈ uW := uW_of (by decide +kernel) rfl
theorem uw_X9_32 : Cond.fieldLink RX9 32 "BandMill" "desk" "LBandMill$Desk;" ∈ uW := uW_of (by decide +kernel) rfl
theorem uw_X9_39 : Cond.fieldLink RX9 39 "BandMill" "search" "LBandMill$RunSearch;" ∈ uW := uW_of (by decide +kernel) rfl
theorem uw_X9_43 : Cond.fieldLink RX9 43 "BandMill" "faultPlace" "I" ∈ uW := uW_of (by decide +kernel) rfl
/-- how long the rows of numbers are -/
def aL (k : Nat) : Nat := match k with
  | 12 => 400
  | 13 => 400
  | 14 => 512
  | 15 => 400
  | 16 => 400
  | 17 => 401
  | 18 => 401
  | 19 => 51
  | 20 => 51
  | 21 => 51
  | 22 => 51
  | 23 => 400
  | 24 => 400
  | 25 => 400
  | 26 => 400
  | 28 => 40
  | 29 => 40
  | 30 => 40
  | 31 => 40
  | 32 => 40
  | 33 => 40
  | 34 => 400
  | 35 => 8000
  | 36 => 40000
  | 37 => 80
  | 38 => 80
  | 39 => 80
  | 40 => 400
  | 41 => 8000
  | 42 => 8
  | 43 => 8
  | 44 => 8
  | 45 => 8
  | 46 => 8
  | 47 => 8
  | 48 => 8
  | 49 => 8
  | 50 => 8
  | 51 => 16040
  | 52 => 16040
  | _ => 0
def isA (k : Nat) : Bool := (Nat.ble 12 k && Nat.ble k 26) || (Nat.ble 28 k && Nat.ble k 52)
theorem isA_or {k : Nat} (h : isA k = true) : k = 12 ∨ k = 13 ∨ k = 14 ∨ k = 15 ∨ k = 16 ∨ k = 17 ∨ k = 18 ∨ k = 19 ∨ k = 20 ∨ k = 21 ∨ k = 22 ∨ k = 23 ∨ k = 24 ∨ k = 25 ∨ k = 26 ∨ k = 28 ∨ k = 29 ∨ k = 30 ∨ k = 31 ∨ k = 32 ∨ k = 33 ∨ k = 34 ∨ k = 35 ∨ k = 36 ∨ k = 37 ∨ k = 38 ∨ k = 39 ∨ k = 40 ∨ k = 41 ∨ k = 42 ∨ k = 43 ∨ k = 44 ∨ k = 45 ∨ k = 46 ∨ k = 47 ∨ k = 48 ∨ k = 49 ∨ k = 50 ∨ k = 51 ∨ k = 52 := by
  simp only [isA, Bool.or_eq_true, Bool.and_eq_true, Nat.ble_eq] at h
  omega
theorem gW_arr {z : bZ} {v : bV} {sc : Nat → Int32} {ar : Nat → Nat → Int32} {k : Nat} (h : isA k = true) : (gW z v sc ar)[k]? = some (zad z k, .inl (zI z, aL k, .inl (ar k))) := by
  rcases isA_or h with rfl | rfl | rfl | rfl | rfl | rfl | rfl | rfl | rfl | rfl | rfl | rfl | rfl | rfl | rfl | rfl | rfl | rfl | rfl | rfl | rfl | rfl | rfl | rfl | rfl | rfl | rfl | rfl | rfl | rfl | rfl | rfl | rfl | rfl | rfl | rfl | rfl | rfl | rfl | rfl <;> rfl
theorem gW_set {z : bZ} {v : bV} {sc : Nat → Int32} {ar : Nat → Nat → Int32} {k : Nat} (h : isA k = true) (g : Nat → Int32) : (gW z v sc ar).set k (zad z k, .inl (zI z, aL k, .inl g)) = gW z v sc (va_up ar k g) := by
  rcases isA_or h with rfl | rfl | rfl | rfl | rfl | rfl | rfl | rfl | rfl | rfl | rfl | rfl | rfl | rfl | rfl | rfl | rfl | rfl | rfl | rfl | rfl | rfl | rfl | rfl | rfl | rfl | rfl | rfl | rfl | rfl | rfl | rfl | rfl | rfl | rfl | rfl | rfl | rfl | rfl | rfl <;> rfl
section FLD
variable {p : Program} {l : Launch} {e : Env} {R : Room} {s : State} {m : MethodId} {args : Array Value} {below : List Frame} {meth : Method} {c : Code} {H : Heap} {locs : List Loc} {cells slots : Nat} {Q : State → Prop}
variable {z : bZ} {v : bV} {sc : Nat → Int32} {ar : Nat → Nat → Int32} {cc : ByteArray} {nL : Nat} {own : String} {pc : Nat} {ls : Array Slot} {rest : List Value}
/-- BandMill$Census.slots -/
theorem rg_X0_11 (C : cX z p m c cc nL s args RX0) (h : hH z v sc ar s H locs) (hd : decode cc pc = .ok (.getfield 11, 3)) (k : W p l e R s m args below meth c H locs cells slots Q (F0 m (pc + 3) ls (.ref (zad z 14) :: rest))) : W p l e R s m args below meth c H locs cells slots Q (F0 m pc ls (.ref (zad z 3) :: rest)) :=
  va_get (D := zD z) (ci := 0) (C := RX0) (T := TX0) (N := 5) (v := .ref (zad z 14)) C.1.1 C.1.2.1 C.1.2.2.2.2 iX0 C.1.2.2.2.1 C.2.1 h.1.1 3 rfl rfl 0 (by decide) (C.1.2.2.2.2 _ uw_X0_11) (fun _ h9 => h9) rfl hd k
/-- BandMill$Census.bits -/
theorem rg_X0_15 (C : cX z p m c cc nL s args RX0) (h : hH z v sc ar s H locs) (hd : decode cc pc = .ok (.getfield 15, 3)) (k : W p l e R s m args below meth c H locs cells slots Q (F0 m (pc + 3) ls (.int (sc 9) :: rest))) : W p l e R s m args below meth c H locs cells slots Q (F0 m pc ls (.ref (zad z 3) :: rest)) :=
  va_get (D := zD z) (ci := 0) (C := RX0) (T := TX0) (N := 5) (v := .int (sc 9)) C.1.1 C.1.2.1 C.1.2.2.2.2 iX0 C.1.2.2.2.1 C.2.1 h.1.1 3 rfl rfl 1 (by decide) (C.1.2.2.2.2 _ uw_X0_15) (fun _ h9 => h9) rfl hd k
/-- BandMill$Census.bits := -/
theorem rp_X0_15 {x : Int32} (C : cX z p m c cc nL s args RX0) (h : hH z v sc ar s H locs) (hd : decode cc pc = .ok (.putfield 15, 3)) (k : ∀ (H1 : Heap) (locs1 : List Loc), hH z v (va_up sc 9 x) ar s H1 locs1 → W p l e R s m args below meth c H1 locs1 cells slots Q (F0 m (pc + 3) ls rest)) : W p l e R s m args below meth c H locs cells slots Q (F0 m pc ls (.int x :: .ref (zad z 3) :: rest)) :=
  va_put (D := zD z) (ci := 0) (ty := .int) (C := RX0) (T := TX0) (N := 5) (v := .int x) C.1.1 C.1.2.1 C.1.2.2.2.2 iX0 tyX0 tyX0_ok nmX0 C.1.2.2.2.1 C.2.1 h.1.1 h.1.2 h.2 3 rfl rfl 1 (by decide) (C.1.2.2.2.2 _ uw_X0_15) (fun _ h9 => h9) rfl (by decide +kernel) rfl rfl (Nat.le_of_ble_eq_true rfl) hd (fun H1 locs1 hP hD hS => k H1 locs1 ⟨⟨hP, hD⟩, hS⟩)
/-- BandMill$Census.kinds -/
theorem rg_X0_19 (C : cX z p m c cc nL s args RX0) (h : hH z v sc ar s H locs) (hd : decode cc pc = .ok (.getfield 19, 3)) (k : W p l e R s m args below meth c H locs cells slots Q (F0 m (pc + 3) ls (.ref (zad z 15) :: rest))) : W p l e R s m args below meth c H locs cells slots Q (F0 m pc ls (.ref (zad z 3) :: rest)) :=
  va_get (D := zD z) (ci := 0) (C := RX0) (T := TX0) (N := 5) (v := .ref (zad z 15)) C.1.1 C.1.2.1 C.1.2.2.2.2 iX0 C.1.2.2.2.1 C.2.1 h.1.1 3 rfl rfl 2 (by decide) (C.1.2.2.2.2 _ uw_X0_19) (fun _ h9 => h9) rfl hd k
/-- BandMill$Census.tallies -/
theorem rg_X0_22 (C : cX z p m c cc nL s args RX0) (h : hH z v sc ar s H locs) (hd : decode cc pc = .ok (.getfield 22, 3)) (k : W p l e R s m args below meth c H locs cells slots Q (F0 m (pc + 3) ls (.ref (zad z 16) :: rest))) : W p l e R s m args below meth c H locs cells slots Q (F0 m pc ls (.ref (zad z 3) :: rest)) :=
  va_get (D := zD z) (ci := 0) (C := RX0) (T := TX0) (N := 5) (v := .ref (zad z 16)) C.1.1 C.1.2.1 C.1.2.2.2.2 iX0 C.1.2.2.2.1 C.2.1 h.1.1 3 rfl rfl 3 (by decide) (C.1.2.2.2.2 _ uw_X0_22) (fun _ h9 => h9) rfl hd k
/-- BandMill$Census.kindCount -/
theorem rg_X0_25 (C : cX z p m c cc nL s args RX0) (h : hH z v sc ar s H locs) (hd : decode cc pc = .ok (.getfield 25, 3)) (k : W p l e R s m args below meth c H locs cells slots Q (F0 m (pc + 3) ls (.int (sc 10) :: rest))) : W p l e R s m args below meth c H locs cells slots Q (F0 m pc ls (.ref (zad z 3) :: rest)) :=
  va_get (D := zD z) (ci := 0) (C := RX0) (T := TX0) (N := 5) (v := .int (sc 10)) C.1.1 C.1.2.1 C.1.2.2.2.2 iX0 C.1.2.2.2.1 C.2.1 h.1.1 3 rfl rfl 4 (by decide) (C.1.2.2.2.2 _ uw_X0_25) (fun _ h9 => h9) rfl hd k
/-- BandMill$Census.kindCount := -/
theorem rp_X0_25 {x : Int32} (C : cX z p m c cc nL s args RX0) (h : hH z v sc ar s H locs) (hd : decode cc pc = .ok (.putfield 25, 3)) (k : ∀ (H1 : Heap) (locs1 : List Loc), hH z v (va_up sc 10 x) ar s H1 locs1 → W p l e R s m args below meth c H1 locs1 cells slots Q (F0 m (pc + 3) ls rest)) : W p l e R s m args below meth c H locs cells slots Q (F0 m pc ls (.int x :: .ref (zad z 3) :: rest)) :=
  va_put (D := zD z) (ci := 0) (ty := .int) (C := RX0) (T := TX0) (N := 5) (v := .int x) C.1.1 C.1.2.1 C.1.2.2.2.2 iX0 tyX0 tyX0_ok nmX0 C.1.2.2.2.1 C.2.1 h.1.1 h.1.2 h.2 3 rfl rfl 4 (by decide) (C.1.2.2.2.2 _ uw_X0_25) (fun _ h9 => h9) rfl (by decide +kernel) rfl rfl (Nat.le_of_ble_eq_true rfl) hd (fun H1 locs1 hP hD hS => k H1 locs1 ⟨⟨hP, hD⟩, hS⟩)
/-- BandMill$Desk.tape -/
theorem rg_X1_31 (C : cX z p m c cc nL s args RX1) (h : hH z v sc ar s H locs) (hd : decode cc pc = .ok (.getfield 31, 3)) (k : W p l e R s m args below meth c H locs cells slots Q (F0 m (pc + 3) ls (.ref (zad z 2) :: rest))) : W p l e R s m args below meth c H locs cells slots Q (F0 m pc ls (.ref (zad z 1) :: rest)) :=
  va_getN (D := zD z) (ci := 2) (C := RX2) (T := TX2) (N := 3) (v := .ref (zad z 2)) C.1.1 C.1.2.1 C.1.2.2.2.2 iX2 C.1.2.2.2.1 C.2.1 h.1.1 1 rfl rfl 0 (by decide) (va_Nw.use rfl (C.2.2.2.1 _ (List.mem_of_getElem? (i := 11) rfl))) (fun _ h9 => h9) rfl hd k
/-- BandMill$Tape.cursor -/
theorem rg_X1_41 (C : cX z p m c cc nL s args RX1) (h : hH z v sc ar s H locs) (hd : decode cc pc = .ok (.getfield 41, 3)) (k : W p l e R s m args below meth c H locs cells slots Q (F0 m (pc + 3) ls (.int (sc 6) :: rest))) : W p l e R s m args below meth c H locs cells slots Q (F0 m pc ls (.ref (zad z 2) :: rest)) :=
  va_getN (D := zD z) (ci := 7) (C := RX7) (T := TX7) (N := 7) (v := .int (sc 6)) C.1.1 C.1.2.1 C.1.2.2.2.2 iX7 C.1.2.2.2.1 C.2.1 h.1.1 2 rfl rfl 4 (by decide) (va_Nw.use rfl (C.2.2.2.1 _ (List.mem_of_getElem? (i := 12) rfl))) (fun _ h9 => h9) rfl hd k
/-- BandMillModel.sort -/
theorem rg_X10_7 (C : cX z p m c cc nL s args RX10) (h : hH z v sc ar s H locs) (hd : decode cc pc = .ok (.getfield 7, 3)) (k : W p l e R s m args below meth c H locs cells slots Q (F0 m (pc + 3) ls (.ref (zad z 28) :: rest))) : W p l e R s m args below meth c H locs cells slots Q (F0 m pc ls (.ref (zad z 27) :: rest)) :=
  va_get (D := zD z) (ci := 9) (C := RX10) (T := TX10) (N := 40) (v := .ref (zad z 28)) C.1.1 C.1.2.1 C.1.2.2.2.2 iX10 C.1.2.2.2.1 C.2.1 h.1.1 27 rfl rfl 2 (by decide) (C.1.2.2.2.2 _ uw_X10_7) (fun _ h9 => h9) rfl hd k
/-- BandMillModel.one -/
theorem rg_X10_13 (C : cX z p m c cc nL s args RX10) (h : hH z v sc ar s H locs) (hd : decode cc pc = .ok (.getfield 13, 3)) (k : W p l e R s m args below meth c H locs cells slots Q (F0 m (pc + 3) ls (.ref (zad z 29) :: rest))) : W p l e R s m args below meth c H locs cells slots Q (F0 m pc ls (.ref (zad z 27) :: rest)) :=
  va_get (D := zD z) (ci := 9) (C := RX10) (T := TX10) (N := 40) (v := .ref (zad z 29)) C.1.1 C.1.2.1 C.1.2.2.2.2 iX10 C.1.2.2.2.1 C.2.1 h.1.1 27 rfl rfl 3 (by decide) (C.1.2.2.2.2 _ uw_X10_13) (fun _ h9 => h9) rfl hd k
/-- BandMillModel.two -/
theorem rg_X10_16 (C : cX z p m c cc nL s args RX10) (h : hH z v sc ar s H locs) (hd : decode cc pc = .ok (.getfield 16, 3)) (k : W p l e R s m args below meth c H locs cells slots Q (F0 m (pc + 3) ls (.ref (zad z 30) :: rest))) : W p l e R s m args below meth c H locs cells slots Q (F0 m pc ls (.ref (zad z 27) :: rest)) :=
  va_get (D := zD z) (ci := 9) (C := RX10) (T := TX10) (N := 40) (v := .ref (zad z 30)) C.1.1 C.1.2.1 C.1.2.2.2.2 iX10 C.1.2.2.2.1 C.2.1 h.1.1 27 rfl rfl 4 (by decide) (C.1.2.2.2.2 _ uw_X10_16) (fun _ h9 => h9) rfl hd k
/-- BandMillModel.three -/
theorem rg_X10_19 (C : cX z p m c cc nL s args RX10) (h : hH z v sc ar s H locs) (hd : decode cc pc = .ok (.getfield 19, 3)) (k : W p l e R s m args below meth c H locs cells slots Q (F0 m (pc + 3) ls (.ref (zad z 31) :: rest))) : W p l e R s m args below meth c H locs cells slots Q (F0 m pc ls (.ref (zad z 27) :: rest)) :=
  va_get (D := zD z) (ci := 9) (C := RX10) (T := TX10) (N := 40) (v := .ref (zad z 31)) C.1.1 C.1.2.1 C.1.2.2.2.2 iX10 C.1.2.2.2.1 C.2.1 h.1.1 27 rfl rfl 5 (by decide) (C.1.2.2.2.2 _ uw_X10_19) (fun _ h9 => h9) rfl hd k
/-- BandMillModel.four -/
theorem rg_X10_22 (C : cX z p m c cc nL s args RX10) (h : hH z v sc ar s H locs) (hd : decode cc pc = .ok (.getfield 22, 3)) (k : W p l e R s m args below meth c H locs cells slots Q (F0 m (pc + 3) ls (.ref (zad z 32) :: rest))) : W p l e R s m args below meth c H locs cells slots Q (F0 m pc ls (.ref (zad z 27) :: rest)) :=
  va_get (D := zD z) (ci := 9) (C := RX10) (T := TX10) (N := 40) (v := .ref (zad z 32)) C.1.1 C.1.2.1 C.1.2.2.2.2 iX10 C.1.2.2.2.1 C.2.1 h.1.1 27 rfl rfl 6 (by decide) (C.1.2.2.2.2 _ uw_X10_22) (fun _ h9 => h9) rfl hd k
/-- BandMillModel.depth -/
theorem rg_X10_25 (C : cX z p m c cc nL s args RX10) (h : hH z v sc ar s H locs) (hd : decode cc pc = .ok (.getfield 25, 3)) (k : W p l e R s m args below meth c H locs cells slots Q (F0 m (pc + 3) ls (.ref (zad z 33) :: rest))) : W p l e R s m args below meth c H locs cells slots Q (F0 m pc ls (.ref (zad z 27) :: rest)) :=
  va_get (D := zD z) (ci := 9) (C := RX10) (T := TX10) (N := 40) (v := .ref (zad z 33)) C.1.1 C.1.2.1 C.1.2.2.2.2 iX10 C.1.2.2.2.1 C.2.1 h.1.1 27 rfl rfl 7 (by decide) (C.1.2.2.2.2 _ uw_X10_25) (fun _ h9 => h9) rfl hd k
/-- BandMillModel.row -/
theorem rg_X10_28 (C : cX z p m c cc nL s args RX10) (h : hH z v sc ar s H locs) (hd : decode cc pc = .ok (.getfield 28, 3)) (k : W p l e R s m args below meth c H locs cells slots Q (F0 m (pc + 3) ls (.ref (zad z 34) :: rest))) : W p l e R s m args below meth c H locs cells slots Q (F0 m pc ls (.ref (zad z 27) :: rest)) :=
  va_get (D := zD z) (ci := 9) (C := RX10) (T := TX10) (N := 40) (v := .ref (zad z 34)) C.1.1 C.1.2.1 C.1.2.2.2.2 iX10 C.1.2.2.2.1 C.2.1 h.1.1 27 rfl rfl 9 (by decide) (C.1.2.2.2.2 _ uw_X10_28) (fun _ h9 => h9) rfl hd k
/-- BandMillModel.tape -/
theorem rg_X10_31 (C : cX z p m c cc nL s args RX10) (h : hH z v sc ar s H locs) (hd : decode cc pc = .ok (.getfield 31, 3)) (k : W p l e R s m args below meth c H locs cells slots Q (F0 m (pc + 3) ls (.ref (zad z 35) :: rest))) : W p l e R s m args below meth c H locs cells slots Q (F0 m pc ls (.ref (zad z 27) :: rest)) :=
  va_get (D := zD z) (ci := 9) (C := RX10) (T := TX10) (N := 40) (v := .ref (zad z 35)) C.1.1 C.1.2.1 C.1.2.2.2.2 iX10 C.1.2.2.2.1 C.2.1 h.1.1 27 rfl rfl 12 (by decide) (C.1.2.2.2.2 _ uw_X10_31) (fun _ h9 => h9) rfl hd k
/-- BandMillModel.place -/
theorem rg_X10_34 (C : cX z p m c cc nL s args RX10) (h : hH z v sc ar s H locs) (hd : decode cc pc = .ok (.getfield 34, 3)) (k : W p l e R s m args below meth c H locs cells slots Q (F0 m (pc + 3) ls (.int (sc 25) :: rest))) : W p l e R s m args below meth c H locs cells slots Q (F0 m pc ls (.ref (zad z 27) :: rest)) :=
  va_get (D := zD z) (ci := 9) (C := RX10) (T := TX10) (N := 40) (v := .int (sc 25)) C.1.1 C.1.2.1 C.1.2.2.2.2 iX10 C.1.2.2.2.1 C.2.1 h.1.1 27 rfl rfl 13 (by decide) (C.1.2.2.2.2 _ uw_X10_34) (fun _ h9 => h9) rfl hd k
/-- BandMillModel.place := -/
theorem rp_X10_34 {x : Int32} (C : cX z p m c cc nL s args RX10) (h : hH z v sc ar s H locs) (hd : decode cc pc = .ok (.putfield 34, 3)) (k : ∀ (H1 : Heap) (locs1 : List Loc), hH z v (va_up sc 25 x) ar s H1 locs1 → W p l e R s m args below meth c H1 locs1 cells slots Q (F0 m (pc + 3) ls rest)) : W p l e R s m args below meth c H locs cells slots Q (F0 m pc ls (.int x :: .ref (zad z 27) :: rest)) :=
  va_put (D := zD z) (ci := 9) (ty := .int) (C := RX10) (T := TX10) (N := 40) (v := .int x) C.1.1 C.1.2.1 C.1.2.2.2.2 iX10 tyX10 tyX10_ok nmX10 C.1.2.2.2.1 C.2.1 h.1.1 h.1.2 h.2 27 rfl rfl 13 (by decide) (C.1.2.2.2.2 _ uw_X10_34) (fun _ h9 => h9) rfl (by decide +kernel) rfl rfl (Nat.le_of_ble_eq_true rfl) hd (fun H1 locs1 hP hD hS => k H1 locs1 ⟨⟨hP, hD⟩, hS⟩)
/-- BandMillModel.chosenN -/
theorem rg_X10_38 (C : cX z p m c cc nL s args RX10) (h : hH z v sc ar s H locs) (hd : decode cc pc = .ok (.getfield 38, 3)) (k : W p l e R s m args below meth c H locs cells slots Q (F0 m (pc + 3) ls (.int (sc 26) :: rest))) : W p l e R s m args below meth c H locs cells slots Q (F0 m pc ls (.ref (zad z 27) :: rest)) :=
  va_get (D := zD z) (ci := 9) (C := RX10) (T := TX10) (N := 40) (v := .int (sc 26)) C.1.1 C.1.2.1 C.1.2.2.2.2 iX10 C.1.2.2.2.1 C.2.1 h.1.1 27 rfl rfl 14 (by decide) (C.1.2.2.2.2 _ uw_X10_38) (fun _ h9 => h9) rfl hd k
/-- BandMillModel.chosenN := -/
theorem rp_X10_38 {x : Int32} (C : cX z p m c cc nL s args RX10) (h : hH z v sc ar s H locs) (hd : decode cc pc = .ok (.putfield 38, 3)) (k : ∀ (H1 : Heap) (locs1 : List Loc), hH z v (va_up sc 26 x) ar s H1 locs1 → W p l e R s m args below meth c H1 locs1 cells slots Q (F0 m (pc + 3) ls rest)) : W p l e R s m args below meth c H locs cells slots Q (F0 m pc ls (.int x :: .ref (zad z 27) :: rest)) :=
  va_put (D := zD z) (ci := 9) (ty := .int) (C := RX10) (T := TX10) (N := 40) (v := .int x) C.1.1 C.1.2.1 C.1.2.2.2.2 iX10 tyX10 tyX10_ok nmX10 C.1.2.2.2.1 C.2.1 h.1.1 h.1.2 h.2 27 rfl rfl 14 (by decide) (C.1.2.2.2.2 _ uw_X10_38) (fun _ h9 => h9) rfl (by decide +kernel) rfl rfl (Nat.le_of_ble_eq_true rfl) hd (fun H1 locs1 hP hD hS => k H1 locs1 ⟨⟨hP, hD⟩, hS⟩)
/-- BandMillModel.chosenFirst -/
theorem rg_X10_41 (C : cX z p m c cc nL s args RX10) (h : hH z v sc ar s H locs) (hd : decode cc pc = .ok (.getfield 41, 3)) (k : W p l e R s m args below meth c H locs cells slots Q (F0 m (pc + 3) ls (.int (sc 27) :: rest))) : W p l e R s m args below meth c H locs cells slots Q (F0 m pc ls (.ref (zad z 27) :: rest)) :=
  va_get (D := zD z) (ci := 9) (C := RX10) (T := TX10) (N := 40) (v := .int (sc 27)) C.1.1 C.1.2.1 C.1.2.2.2.2 iX10 C.1.2.2.2.1 C.2.1 h.1.1 27 rfl rfl 15 (by decide) (C.1.2.2.2.2 _ uw_X10_41) (fun _ h9 => h9) rfl hd k
/-- BandMillModel.chosenFirst := -/
theorem rp_X10_41 {x : Int32} (C : cX z p m c cc nL s args RX10) (h : hH z v sc ar s H locs) (hd : decode cc pc = .ok (.putfield 41, 3)) (k : ∀ (H1 : Heap) (locs1 : List Loc), hH z v (va_up sc 27 x) ar s H1 locs1 → W p l e R s m args below meth c H1 locs1 cells slots Q (F0 m (pc + 3) ls rest)) : W p l e R s m args below meth c H locs cells slots Q (F0 m pc ls (.int x :: .ref (zad z 27) :: rest)) :=
  va_put (D := zD z) (ci := 9) (ty := .int) (C := RX10) (T := TX10) (N := 40) (v := .int x) C.1.1 C.1.2.1 C.1.2.2.2.2 iX10 tyX10 tyX10_ok nmX10 C.1.2.2.2.1 C.2.1 h.1.1 h.1.2 h.2 27 rfl rfl 15 (by decide) (C.1.2.2.2.2 _ uw_X10_41) (fun _ h9 => h9) rfl (by decide +kernel) rfl rfl (Nat.le_of_ble_eq_true rfl) hd (fun H1 locs1 hP hD hS => k H1 locs1 ⟨⟨hP, hD⟩, hS⟩)
/-- BandMillModel.chosenOther -/
theorem rg_X10_44 (C : cX z p m c cc nL s args RX10) (h : hH z v sc ar s H locs) (hd : decode cc pc = .ok (.getfield 44, 3)) (k : W p l e R s m args below meth c H locs cells slots Q (F0 m (pc + 3) ls (.int (sc 28) :: rest))) : W p l e R s m args below meth c H locs cells slots Q (F0 m pc ls (.ref (zad z 27) :: rest)) :=
  va_get (D := zD z) (ci := 9) (C := RX10) (T := TX10) (N := 40) (v := .int (sc 28)) C.1.1 C.1.2.1 C.1.2.2.2.2 iX10 C.1.2.2.2.1 C.2.1 h.1.1 27 rfl rfl 16 (by decide) (C.1.2.2.2.2 _ uw_X10_44) (fun _ h9 => h9) rfl hd k
/-- BandMillModel.chosenOther := -/
theorem rp_X10_44 {x : Int32} (C : cX z p m c cc nL s args RX10) (h : hH z v sc ar s H locs) (hd : decode cc pc = .ok (.putfield 44, 3)) (k : ∀ (H1 : Heap) (locs1 : List Loc), hH z v (va_up sc 28 x) ar s H1 locs1 → W p l e R s m args below meth c H1 locs1 cells slots Q (F0 m (pc + 3) ls rest)) : W p l e R s m args below meth c H locs cells slots Q (F0 m pc ls (.int x :: .ref (zad z 27) :: rest)) :=
  va_put (D := zD z) (ci := 9) (ty := .int) (C := RX10) (T := TX10) (N := 40) (v := .int x) C.1.1 C.1.2.1 C.1.2.2.2.2 iX10 tyX10 tyX10_ok nmX10 C.1.2.2.2.1 C.2.1 h.1.1 h.1.2 h.2 27 rfl rfl 16 (by decide) (C.1.2.2.2.2 _ uw_X10_44) (fun _ h9 => h9) rfl (by decide +kernel) rfl rfl (Nat.le_of_ble_eq_true rfl) hd (fun H1 locs1 hP hD hS => k H1 locs1 ⟨⟨hP, hD⟩, hS⟩)
/-- BandMillModel.pool -/
theorem rg_X10_48 (C : cX z p m c cc nL s args RX10) (h : hH z v sc ar s H locs) (hd : decode cc pc = .ok (.getfield 48, 3)) (k : W p l e R s m args below meth c H locs cells slots Q (F0 m (pc + 3) ls (.ref (zad z 36) :: rest))) : W p l e R s m args below meth c H locs cells slots Q (F0 m pc ls (.ref (zad z 27) :: rest)) :=
  va_get (D := zD z) (ci := 9) (C := RX10) (T := TX10) (N := 40) (v := .ref (zad z 36)) C.1.1 C.1.2.1 C.1.2.2.2.2 iX10 C.1.2.2.2.1 C.2.1 h.1.1 27 rfl rfl 17 (by decide) (C.1.2.2.2.2 _ uw_X10_48) (fun _ h9 => h9) rfl hd k
/-- BandMillModel.taskWay -/
theorem rg_X10_51 (C : cX z p m c cc nL s args RX10) (h : hH z v sc ar s H locs) (hd : decode cc pc = .ok (.getfield 51, 3)) (k : W p l e R s m args below meth c H locs cells slots Q (F0 m (pc + 3) ls (.ref (zad z 37) :: rest))) : W p l e R s m args below meth c H locs cells slots Q (F0 m pc ls (.ref (zad z 27) :: rest)) :=
  va_get (D := zD z) (ci := 9) (C := RX10) (T := TX10) (N := 40) (v := .ref (zad z 37)) C.1.1 C.1.2.1 C.1.2.2.2.2 iX10 C.1.2.2.2.1 C.2.1 h.1.1 27 rfl rfl 19 (by decide) (C.1.2.2.2.2 _ uw_X10_51) (fun _ h9 => h9) rfl hd k
/-- BandMillModel.taskFirst -/
theorem rg_X10_54 (C : cX z p m c cc nL s args RX10) (h : hH z v sc ar s H locs) (hd : decode cc pc = .ok (.getfield 54, 3)) (k : W p l e R s m args below meth c H locs cells slots Q (F0 m (pc + 3) ls (.ref (zad z 38) :: rest))) : W p l e R s m args below meth c H locs cells slots Q (F0 m pc ls (.ref (zad z 27) :: rest)) :=
  va_get (D := zD z) (ci := 9) (C := RX10) (T := TX10) (N := 40) (v := .ref (zad z 38)) C.1.1 C.1.2.1 C.1.2.2.2.2 iX10 C.1.2.2.2.1 C.2.1 h.1.1 27 rfl rfl 20 (by decide) (C.1.2.2.2.2 _ uw_X10_54) (fun _ h9 => h9) rfl hd k
/-- BandMillModel.taskMany -/
theorem rg_X10_57 (C : cX z p m c cc nL s args RX10) (h : hH z v sc ar s H locs) (hd : decode cc pc = .ok (.getfield 57, 3)) (k : W p l e R s m args below meth c H locs cells slots Q (F0 m (pc + 3) ls (.ref (zad z 39) :: rest))) : W p l e R s m args below meth c H locs cells slots Q (F0 m pc ls (.ref (zad z 27) :: rest)) :=
  va_get (D := zD z) (ci := 9) (C := RX10) (T := TX10) (N := 40) (v := .ref (zad z 39)) C.1.1 C.1.2.1 C.1.2.2.2.2 iX10 C.1.2.2.2.1 C.2.1 h.1.1 27 rfl rfl 21 (by decide) (C.1.2.2.2.2 _ uw_X10_57) (fun _ h9 => h9) rfl hd k
/-- BandMillModel.often -/
theorem rg_X10_60 (C : cX z p m c cc nL s args RX10) (h : hH z v sc ar s H locs) (hd : decode cc pc = .ok (.getfield 60, 3)) (k : W p l e R s m args below meth c H locs cells slots Q (F0 m (pc + 3) ls (.ref (zad z 40) :: rest))) : W p l e R s m args below meth c H locs cells slots Q (F0 m pc ls (.ref (zad z 27) :: rest)) :=
  va_get (D := zD z) (ci := 9) (C := RX10) (T := TX10) (N := 40) (v := .ref (zad z 40)) C.1.1 C.1.2.1 C.1.2.2.2.2 iX10 C.1.2.2.2.1 C.2.1 h.1.1 27 rfl rfl 23 (by decide) (C.1.2.2.2.2 _ uw_X10_60) (fun _ h9 => h9) rfl hd k
/-- BandMillModel.out -/
theorem rg_X10_63 (C : cX z p m c cc nL s args RX10) (h : hH z v sc ar s H locs) (hd : decode cc pc = .ok (.getfield 63, 3)) (k : W p l e R s m args below meth c H locs cells slots Q (F0 m (pc + 3) ls (.ref (zad z 41) :: rest))) : W p l e R s m args below meth c H locs cells slots Q (F0 m pc ls (.ref (zad z 27) :: rest)) :=
  va_get (D := zD z) (ci := 9) (C := RX10) (T := TX10) (N := 40) (v := .ref (zad z 41)) C.1.1 C.1.2.1 C.1.2.2.2.2 iX10 C.1.2.2.2.1 C.2.1 h.1.1 27 rfl rfl 25 (by decide) (C.1.2.2.2.2 _ uw_X10_63) (fun _ h9 => h9) rfl hd k
/-- BandMillModel.inWay -/
theorem rg_X10_66 (C : cX z p m c cc nL s args RX10) (h : hH z v sc ar s H locs) (hd : decode cc pc = .ok (.getfield 66, 3)) (k : W p l e R s m args below meth c H locs cells slots Q (F0 m (pc + 3) ls (.ref (zad z 42) :: rest))) : W p l e R s m args below meth c H locs cells slots Q (F0 m pc ls (.ref (zad z 27) :: rest)) :=
  va_get (D := zD z) (ci := 9) (C := RX10) (T := TX10) (N := 40) (v := .ref (zad z 42)) C.1.1 C.1.2.1 C.1.2.2.2.2 iX10 C.1.2.2.2.1 C.2.1 h.1.1 27 rfl rfl 26 (by decide) (C.1.2.2.2.2 _ uw_X10_66) (fun _ h9 => h9) rfl hd k
/-- BandMillModel.inMany -/
theorem rg_X10_69 (C : cX z p m c cc nL s args RX10) (h : hH z v sc ar s H locs) (hd : decode cc pc = .ok (.getfield 69, 3)) (k : W p l e R s m args below meth c H locs cells slots Q (F0 m (pc + 3) ls (.ref (zad z 43) :: rest))) : W p l e R s m args below meth c H locs cells slots Q (F0 m pc ls (.ref (zad z 27) :: rest)) :=
  va_get (D := zD z) (ci := 9) (C := RX10) (T := TX10) (N := 40) (v := .ref (zad z 43)) C.1.1 C.1.2.1 C.1.2.2.2.2 iX10 C.1.2.2.2.1 C.2.1 h.1.1 27 rfl rfl 27 (by decide) (C.1.2.2.2.2 _ uw_X10_69) (fun _ h9 => h9) rfl hd k
/-- BandMillModel.inTo -/
theorem rg_X10_72 (C : cX z p m c cc nL s args RX10) (h : hH z v sc ar s H locs) (hd : decode cc pc = .ok (.getfield 72, 3)) (k : W p l e R s m args below meth c H locs cells slots Q (F0 m (pc + 3) ls (.ref (zad z 44) :: rest))) : W p l e R s m args below meth c H locs cells slots Q (F0 m pc ls (.ref (zad z 27) :: rest)) :=
  va_get (D := zD z) (ci := 9) (C := RX10) (T := TX10) (N := 40) (v := .ref (zad z 44)) C.1.1 C.1.2.1 C.1.2.2.2.2 iX10 C.1.2.2.2.1 C.2.1 h.1.1 27 rfl rfl 28 (by decide) (C.1.2.2.2.2 _ uw_X10_72) (fun _ h9 => h9) rfl hd k
/-- BandMillModel.inState -/
theorem rg_X10_75 (C : cX z p m c cc nL s args RX10) (h : hH z v sc ar s H locs) (hd : decode cc pc = .ok (.getfield 75, 3)) (k : W p l e R s m args below meth c H locs cells slots Q (F0 m (pc + 3) ls (.ref (zad z 45) :: rest))) : W p l e R s m args below meth c H locs cells slots Q (F0 m pc ls (.ref (zad z 27) :: rest)) :=
  va_get (D := zD z) (ci := 9) (C := RX10) (T := TX10) (N := 40) (v := .ref (zad z 45)) C.1.1 C.1.2.1 C.1.2.2.2.2 iX10 C.1.2.2.2.1 C.2.1 h.1.1 27 rfl rfl 29 (by decide) (C.1.2.2.2.2 _ uw_X10_75) (fun _ h9 => h9) rfl hd k
/-- BandMillModel.inRow -/
theorem rg_X10_78 (C : cX z p m c cc nL s args RX10) (h : hH z v sc ar s H locs) (hd : decode cc pc = .ok (.getfield 78, 3)) (k : W p l e R s m args below meth c H locs cells slots Q (F0 m (pc + 3) ls (.ref (zad z 46) :: rest))) : W p l e R s m args below meth c H locs cells slots Q (F0 m pc ls (.ref (zad z 27) :: rest)) :=
  va_get (D := zD z) (ci := 9) (C := RX10) (T := TX10) (N := 40) (v := .ref (zad z 46)) C.1.1 C.1.2.1 C.1.2.2.2.2 iX10 C.1.2.2.2.1 C.2.1 h.1.1 27 rfl rfl 30 (by decide) (C.1.2.2.2.2 _ uw_X10_78) (fun _ h9 => h9) rfl hd k
/-- BandMillModel.inFavourites -/
theorem rg_X10_81 (C : cX z p m c cc nL s args RX10) (h : hH z v sc ar s H locs) (hd : decode cc pc = .ok (.getfield 81, 3)) (k : W p l e R s m args below meth c H locs cells slots Q (F0 m (pc + 3) ls (.ref (zad z 47) :: rest))) : W p l e R s m args below meth c H locs cells slots Q (F0 m pc ls (.ref (zad z 27) :: rest)) :=
  va_get (D := zD z) (ci := 9) (C := RX10) (T := TX10) (N := 40) (v := .ref (zad z 47)) C.1.1 C.1.2.1 C.1.2.2.2.2 iX10 C.1.2.2.2.1 C.2.1 h.1.1 27 rfl rfl 31 (by decide) (C.1.2.2.2.2 _ uw_X10_81) (fun _ h9 => h9) rfl hd k
/-- BandMillModel.inTokens -/
theorem rg_X10_84 (C : cX z p m c cc nL s args RX10) (h : hH z v sc ar s H locs) (hd : decode cc pc = .ok (.getfield 84, 3)) (k : W p l e R s m args below meth c H locs cells slots Q (F0 m (pc + 3) ls (.ref (zad z 48) :: rest))) : W p l e R s m args below meth c H locs cells slots Q (F0 m pc ls (.ref (zad z 27) :: rest)) :=
  va_get (D := zD z) (ci := 9) (C := RX10) (T := TX10) (N := 40) (v := .ref (zad z 48)) C.1.1 C.1.2.1 C.1.2.2.2.2 iX10 C.1.2.2.2.1 C.2.1 h.1.1 27 rfl rfl 32 (by decide) (C.1.2.2.2.2 _ uw_X10_84) (fun _ h9 => h9) rfl hd k
/-- BandMillModel.inOthers -/
theorem rg_X10_87 (C : cX z p m c cc nL s args RX10) (h : hH z v sc ar s H locs) (hd : decode cc pc = .ok (.getfield 87, 3)) (k : W p l e R s m args below meth c H locs cells slots Q (F0 m (pc + 3) ls (.ref (zad z 49) :: rest))) : W p l e R s m args below meth c H locs cells slots Q (F0 m pc ls (.ref (zad z 27) :: rest)) :=
  va_get (D := zD z) (ci := 9) (C := RX10) (T := TX10) (N := 40) (v := .ref (zad z 49)) C.1.1 C.1.2.1 C.1.2.2.2.2 iX10 C.1.2.2.2.1 C.2.1 h.1.1 27 rfl rfl 33 (by decide) (C.1.2.2.2.2 _ uw_X10_87) (fun _ h9 => h9) rfl hd k
/-- BandMillModel.inByte -/
theorem rg_X10_90 (C : cX z p m c cc nL s args RX10) (h : hH z v sc ar s H locs) (hd : decode cc pc = .ok (.getfield 90, 3)) (k : W p l e R s m args below meth c H locs cells slots Q (F0 m (pc + 3) ls (.ref (zad z 50) :: rest))) : W p l e R s m args below meth c H locs cells slots Q (F0 m pc ls (.ref (zad z 27) :: rest)) :=
  va_get (D := zD z) (ci := 9) (C := RX10) (T := TX10) (N := 40) (v := .ref (zad z 50)) C.1.1 C.1.2.1 C.1.2.2.2.2 iX10 C.1.2.2.2.1 C.2.1 h.1.1 27 rfl rfl 34 (by decide) (C.1.2.2.2.2 _ uw_X10_90) (fun _ h9 => h9) rfl hd k
/-- BandMillModel.ahead -/
theorem rg_X10_93 (C : cX z p m c cc nL s args RX10) (h : hH z v sc ar s H locs) (hd : decode cc pc = .ok (.getfield 93, 3)) (k : W p l e R s m args below meth c H locs cells slots Q (F0 m (pc + 3) ls (.ref (zad z 51) :: rest))) : W p l e R s m args below meth c H locs cells slots Q (F0 m pc ls (.ref (zad z 27) :: rest)) :=
  va_get (D := zD z) (ci := 9) (C := RX10) (T := TX10) (N := 40) (v := .ref (zad z 51)) C.1.1 C.1.2.1 C.1.2.2.2.2 iX10 C.1.2.2.2.1 C.2.1 h.1.1 27 rfl rfl 38 (by decide) (C.1.2.2.2.2 _ uw_X10_93) (fun _ h9 => h9) rfl hd k
/-- BandMillModel.behind -/
theorem rg_X10_96 (C : cX z p m c cc nL s args RX10) (h : hH z v sc ar s H locs) (hd : decode cc pc = .ok (.getfield 96, 3)) (k : W p l e R s m args below meth c H locs cells slots Q (F0 m (pc + 3) ls (.ref (zad z 52) :: rest))) : W p l e R s m args below meth c H locs cells slots Q (F0 m pc ls (.ref (zad z 27) :: rest)) :=
  va_get (D := zD z) (ci := 9) (C := RX10) (T := TX10) (N := 40) (v := .ref (zad z 52)) C.1.1 C.1.2.1 C.1.2.2.2.2 iX10 C.1.2.2.2.1 C.2.1 h.1.1 27 rfl rfl 39 (by decide) (C.1.2.2.2.2 _ uw_X10_96) (fun _ h9 => h9) rfl hd k
/-- BandMillModel.code -/
theorem rg_X10_99 (C : cX z p m c cc nL s args RX10) (h : hH z v sc ar s H locs) (hd : decode cc pc = .ok (.getfield 99, 3)) (k : W p l e R s m args below meth c H locs cells slots Q (F0 m (pc + 3) ls (.int (sc 20) :: rest))) : W p l e R s m args below meth c H locs cells slots Q (F0 m pc ls (.ref (zad z 27) :: rest)) :=
  va_get (D := zD z) (ci := 9) (C := RX10) (T := TX10) (N := 40) (v := .int (sc 20)) C.1.1 C.1.2.1 C.1.2.2.2.2 iX10 C.1.2.2.2.1 C.2.1 h.1.1 27 rfl rfl 0 (by decide) (C.1.2.2.2.2 _ uw_X10_99) (fun _ h9 => h9) rfl hd k
/-- BandMillModel.code := -/
theorem rp_X10_99 {x : Int32} (C : cX z p m c cc nL s args RX10) (h : hH z v sc ar s H locs) (hd : decode cc pc = .ok (.putfield 99, 3)) (k : ∀ (H1 : Heap) (locs1 : List Loc), hH z v (va_up sc 20 x) ar s H1 locs1 → W p l e R s m args below meth c H1 locs1 cells slots Q (F0 m (pc + 3) ls rest)) : W p l e R s m args below meth c H locs cells slots Q (F0 m pc ls (.int x :: .ref (zad z 27) :: rest)) :=
  va_put (D := zD z) (ci := 9) (ty := .int) (C := RX10) (T := TX10) (N := 40) (v := .int x) C.1.1 C.1.2.1 C.1.2.2.2.2 iX10 tyX10 tyX10_ok nmX10 C.1.2.2.2.1 C.2.1 h.1.1 h.1.2 h.2 27 rfl rfl 0 (by decide) (C.1.2.2.2.2 _ uw_X10_99) (fun _ h9 => h9) rfl (by decide +kernel) rfl rfl (Nat.le_of_ble_eq_true rfl) hd (fun H1 locs1 hP hD hS => k H1 locs1 ⟨⟨hP, hD⟩, hS⟩)
/-- BandMillModel.ways -/
theorem rg_X10_102 (C : cX z p m c cc nL s args RX10) (h : hH z v sc ar s H locs) (hd : decode cc pc = .ok (.getfield 102, 3)) (k : W p l e R s m args below meth c H locs cells slots Q (F0 m (pc + 3) ls (.int (sc 21) :: rest))) : W p l e R s m args below meth c H locs cells slots Q (F0 m pc ls (.ref (zad z 27) :: rest)) :=
  va_get (D := zD z) (ci := 9) (C := RX10) (T := TX10) (N := 40) (v := .int (sc 21)) C.1.1 C.1.2.1 C.1.2.2.2.2 iX10 C.1.2.2.2.1 C.2.1 h.1.1 27 rfl rfl 1 (by decide) (C.1.2.2.2.2 _ uw_X10_102) (fun _ h9 => h9) rfl hd k
/-- BandMillModel.ways := -/
theorem rp_X10_102 {x : Int32} (C : cX z p m c cc nL s args RX10) (h : hH z v sc ar s H locs) (hd : decode cc pc = .ok (.putfield 102, 3)) (k : ∀ (H1 : Heap) (locs1 : List Loc), hH z v (va_up sc 21 x) ar s H1 locs1 → W p l e R s m args below meth c H1 locs1 cells slots Q (F0 m (pc + 3) ls rest)) : W p l e R s m args below meth c H locs cells slots Q (F0 m pc ls (.int x :: .ref (zad z 27) :: rest)) :=
  va_put (D := zD z) (ci := 9) (ty := .int) (C := RX10) (T := TX10) (N := 40) (v := .int x) C.1.1 C.1.2.1 C.1.2.2.2.2 iX10 tyX10 tyX10_ok nmX10 C.1.2.2.2.1 C.2.1 h.1.1 h.1.2 h.2 27 rfl rfl 1 (by decide) (C.1.2.2.2.2 _ uw_X10_102) (fun _ h9 => h9) rfl (by decide +kernel) rfl rfl (Nat.le_of_ble_eq_true rfl) hd (fun H1 locs1 hP hD hS => k H1 locs1 ⟨⟨hP, hD⟩, hS⟩)
/-- BandMillModel.many -/
theorem rg_X10_120 (C : cX z p m c cc nL s args RX10) (h : hH z v sc ar s H locs) (hd : decode cc pc = .ok (.getfield 120, 3)) (k : W p l e R s m args below meth c H locs cells slots Q (F0 m (pc + 3) ls (.int (sc 22) :: rest))) : W p l e R s m args below meth c H locs cells slots Q (F0 m pc ls (.ref (zad z 27) :: rest)) :=
  va_get (D := zD z) (ci := 9) (C := RX10) (T := TX10) (N := 40) (v := .int (sc 22)) C.1.1 C.1.2.1 C.1.2.2.2.2 iX10 C.1.2.2.2.1 C.2.1 h.1.1 27 rfl rfl 8 (by decide) (C.1.2.2.2.2 _ uw_X10_120) (fun _ h9 => h9) rfl hd k
/-- BandMillModel.many := -/
theorem rp_X10_120 {x : Int32} (C : cX z p m c cc nL s args RX10) (h : hH z v sc ar s H locs) (hd : decode cc pc = .ok (.putfield 120, 3)) (k : ∀ (H1 : Heap) (locs1 : List Loc), hH z v (va_up sc 22 x) ar s H1 locs1 → W p l e R s m args below meth c H1 locs1 cells slots Q (F0 m (pc + 3) ls rest)) : W p l e R s m args below meth c H locs cells slots Q (F0 m pc ls (.int x :: .ref (zad z 27) :: rest)) :=
  va_put (D := zD z) (ci := 9) (ty := .int) (C := RX10) (T := TX10) (N := 40) (v := .int x) C.1.1 C.1.2.1 C.1.2.2.2.2 iX10 tyX10 tyX10_ok nmX10 C.1.2.2.2.1 C.2.1 h.1.1 h.1.2 h.2 27 rfl rfl 8 (by decide) (C.1.2.2.2.2 _ uw_X10_120) (fun _ h9 => h9) rfl (by decide +kernel) rfl rfl (Nat.le_of_ble_eq_true rfl) hd (fun H1 locs1 hP hD hS => k H1 locs1 ⟨⟨hP, hD⟩, hS⟩)
/-- BandMillModel.written -/
theorem rg_X10_141 (C : cX z p m c cc nL s args RX10) (h : hH z v sc ar s H locs) (hd : decode cc pc = .ok (.getfield 141, 3)) (k : W p l e R s m args below meth c H locs cells slots Q (F0 m (pc + 3) ls (.int (sc 31) :: rest))) : W p l e R s m args below meth c H locs cells slots Q (F0 m pc ls (.ref (zad z 27) :: rest)) :=
  va_get (D := zD z) (ci := 9) (C := RX10) (T := TX10) (N := 40) (v := .int (sc 31)) C.1.1 C.1.2.1 C.1.2.2.2.2 iX10 C.1.2.2.2.1 C.2.1 h.1.1 27 rfl rfl 24 (by decide) (C.1.2.2.2.2 _ uw_X10_141) (fun _ h9 => h9) rfl hd k
/-- BandMillModel.written := -/
theorem rp_X10_141 {x : Int32} (C : cX z p m c cc nL s args RX10) (h : hH z v sc ar s H locs) (hd : decode cc pc = .ok (.putfield 141, 3)) (k : ∀ (H1 : Heap) (locs1 : List Loc), hH z v (va_up sc 31 x) ar s H1 locs1 → W p l e R s m args below meth c H1 locs1 cells slots Q (F0 m (pc + 3) ls rest)) : W p l e R s m args below meth c H locs cells slots Q (F0 m pc ls (.int x :: .ref (zad z 27) :: rest)) :=
  va_put (D := zD z) (ci := 9) (ty := .int) (C := RX10) (T := TX10) (N := 40) (v := .int x) C.1.1 C.1.2.1 C.1.2.2.2.2 iX10 tyX10 tyX10_ok nmX10 C.1.2.2.2.1 C.2.1 h.1.1 h.1.2 h.2 27 rfl rfl 24 (by decide) (C.1.2.2.2.2 _ uw_X10_141) (fun _ h9 => h9) rfl (by decide +kernel) rfl rfl (Nat.le_of_ble_eq_true rfl) hd (fun H1 locs1 hP hD hS => k H1 locs1 ⟨⟨hP, hD⟩, hS⟩)
/-- BandMillModel.tasks -/
theorem rg_X10_144 (C : cX z p m c cc nL s args RX10) (h : hH z v sc ar s H locs) (hd : decode cc pc = .ok (.getfield 144, 3)) (k : W p l e R s m args below meth c H locs cells slots Q (F0 m (pc + 3) ls (.int (sc 30) :: rest))) : W p l e R s m args below meth c H locs cells slots Q (F0 m pc ls (.ref (zad z 27) :: rest)) :=
  va_get (D := zD z) (ci := 9) (C := RX10) (T := TX10) (N := 40) (v := .int (sc 30)) C.1.1 C.1.2.1 C.1.2.2.2.2 iX10 C.1.2.2.2.1 C.2.1 h.1.1 27 rfl rfl 22 (by decide) (C.1.2.2.2.2 _ uw_X10_144) (fun _ h9 => h9) rfl hd k
/-- BandMillModel.tasks := -/
theorem rp_X10_144 {x : Int32} (C : cX z p m c cc nL s args RX10) (h : hH z v sc ar s H locs) (hd : decode cc pc = .ok (.putfield 144, 3)) (k : ∀ (H1 : Heap) (locs1 : List Loc), hH z v (va_up sc 30 x) ar s H1 locs1 → W p l e R s m args below meth c H1 locs1 cells slots Q (F0 m (pc + 3) ls rest)) : W p l e R s m args below meth c H locs cells slots Q (F0 m pc ls (.int x :: .ref (zad z 27) :: rest)) :=
  va_put (D := zD z) (ci := 9) (ty := .int) (C := RX10) (T := TX10) (N := 40) (v := .int x) C.1.1 C.1.2.1 C.1.2.2.2.2 iX10 tyX10 tyX10_ok nmX10 C.1.2.2.2.1 C.2.1 h.1.1 h.1.2 h.2 27 rfl rfl 22 (by decide) (C.1.2.2.2.2 _ uw_X10_144) (fun _ h9 => h9) rfl (by decide +kernel) rfl rfl (Nat.le_of_ble_eq_true rfl) hd (fun H1 locs1 hP hD hS => k H1 locs1 ⟨⟨hP, hD⟩, hS⟩)
/-- BandMillModel.used -/
theorem rg_X10_147 (C : cX z p m c cc nL s args RX10) (h : hH z v sc ar s H locs) (hd : decode cc pc = .ok (.getfield 147, 3)) (k : W p l e R s m args below meth c H locs cells slots Q (F0 m (pc + 3) ls (.int (sc 29) :: rest))) : W p l e R s m args below meth c H locs cells slots Q (F0 m pc ls (.ref (zad z 27) :: rest)) :=
  va_get (D := zD z) (ci := 9) (C := RX10) (T := TX10) (N := 40) (v := .int (sc 29)) C.1.1 C.1.2.1 C.1.2.2.2.2 iX10 C.1.2.2.2.1 C.2.1 h.1.1 27 rfl rfl 18 (by decide) (C.1.2.2.2.2 _ uw_X10_147) (fun _ h9 => h9) rfl hd k
/-- BandMillModel.used := -/
theorem rp_X10_147 {x : Int32} (C : cX z p m c cc nL s args RX10) (h : hH z v sc ar s H locs) (hd : decode cc pc = .ok (.putfield 147, 3)) (k : ∀ (H1 : Heap) (locs1 : List Loc), hH z v (va_up sc 29 x) ar s H1 locs1 → W p l e R s m args below meth c H1 locs1 cells slots Q (F0 m (pc + 3) ls rest)) : W p l e R s m args below meth c H locs cells slots Q (F0 m pc ls (.int x :: .ref (zad z 27) :: rest)) :=
  va_put (D := zD z) (ci := 9) (ty := .int) (C := RX10) (T := TX10) (N := 40) (v := .int x) C.1.1 C.1.2.1 C.1.2.2.2.2 iX10 tyX10 tyX10_ok nmX10 C.1.2.2.2.1 C.2.1 h.1.1 h.1.2 h.2 27 rfl rfl 18 (by decide) (C.1.2.2.2.2 _ uw_X10_147) (fun _ h9 => h9) rfl (by decide +kernel) rfl rfl (Nat.le_of_ble_eq_true rfl) hd (fun H1 locs1 hP hD hS => k H1 locs1 ⟨⟨hP, hD⟩, hS⟩)
/-- BandMillModel.length -/
theorem rg_X10_168 (C : cX z p m c cc nL s args RX10) (h : hH z v sc ar s H locs) (hd : decode cc pc = .ok (.getfield 168, 3)) (k : W p l e R s m args below meth c H locs cells slots Q (F0 m (pc + 3) ls (.int (sc 23) :: rest))) : W p l e R s m args below meth c H locs cells slots Q (F0 m pc ls (.ref (zad z 27) :: rest)) :=
  va_get (D := zD z) (ci := 9) (C := RX10) (T := TX10) (N := 40) (v := .int (sc 23)) C.1.1 C.1.2.1 C.1.2.2.2.2 iX10 C.1.2.2.2.1 C.2.1 h.1.1 27 rfl rfl 10 (by decide) (C.1.2.2.2.2 _ uw_X10_168) (fun _ h9 => h9) rfl hd k
/-- BandMillModel.length := -/
theorem rp_X10_168 {x : Int32} (C : cX z p m c cc nL s args RX10) (h : hH z v sc ar s H locs) (hd : decode cc pc = .ok (.putfield 168, 3)) (k : ∀ (H1 : Heap) (locs1 : List Loc), hH z v (va_up sc 23 x) ar s H1 locs1 → W p l e R s m args below meth c H1 locs1 cells slots Q (F0 m (pc + 3) ls rest)) : W p l e R s m args below meth c H locs cells slots Q (F0 m pc ls (.int x :: .ref (zad z 27) :: rest)) :=
  va_put (D := zD z) (ci := 9) (ty := .int) (C := RX10) (T := TX10) (N := 40) (v := .int x) C.1.1 C.1.2.1 C.1.2.2.2.2 iX10 tyX10 tyX10_ok nmX10 C.1.2.2.2.1 C.2.1 h.1.1 h.1.2 h.2 27 rfl rfl 10 (by decide) (C.1.2.2.2.2 _ uw_X10_168) (fun _ h9 => h9) rfl (by decide +kernel) rfl rfl (Nat.le_of_ble_eq_true rfl) hd (fun H1 locs1 hP hD hS => k H1 locs1 ⟨⟨hP, hD⟩, hS⟩)
/-- BandMillModel.fault -/
theorem rg_X10_171 (C : cX z p m c cc nL s args RX10) (h : hH z v sc ar s H locs) (hd : decode cc pc = .ok (.getfield 171, 3)) (k : W p l e R s m args below meth c H locs cells slots Q (F0 m (pc + 3) ls (.int (sc 33) :: rest))) : W p l e R s m args below meth c H locs cells slots Q (F0 m pc ls (.ref (zad z 27) :: rest)) :=
  va_get (D := zD z) (ci := 9) (C := RX10) (T := TX10) (N := 40) (v := .int (sc 33)) C.1.1 C.1.2.1 C.1.2.2.2.2 iX10 C.1.2.2.2.1 C.2.1 h.1.1 27 rfl rfl 36 (by decide) (C.1.2.2.2.2 _ uw_X10_171) (fun _ h9 => h9) rfl hd k
/-- BandMillModel.fault := -/
theorem rp_X10_171 {x : Int32} (C : cX z p m c cc nL s args RX10) (h : hH z v sc ar s H locs) (hd : decode cc pc = .ok (.putfield 171, 3)) (k : ∀ (H1 : Heap) (locs1 : List Loc), hH z v (va_up sc 33 x) ar s H1 locs1 → W p l e R s m args below meth c H1 locs1 cells slots Q (F0 m (pc + 3) ls rest)) : W p l e R s m args below meth c H locs cells slots Q (F0 m pc ls (.int x :: .ref (zad z 27) :: rest)) :=
  va_put (D := zD z) (ci := 9) (ty := .int) (C := RX10) (T := TX10) (N := 40) (v := .int x) C.1.1 C.1.2.1 C.1.2.2.2.2 iX10 tyX10 tyX10_ok nmX10 C.1.2.2.2.1 C.2.1 h.1.1 h.1.2 h.2 27 rfl rfl 36 (by decide) (C.1.2.2.2.2 _ uw_X10_171) (fun _ h9 => h9) rfl (by decide +kernel) rfl rfl (Nat.le_of_ble_eq_true rfl) hd (fun H1 locs1 hP hD hS => k H1 locs1 ⟨⟨hP, hD⟩, hS⟩)
/-- BandMillModel.faultAt -/
theorem rg_X10_174 (C : cX z p m c cc nL s args RX10) (h : hH z v sc ar s H locs) (hd : decode cc pc = .ok (.getfield 174, 3)) (k : W p l e R s m args below meth c H locs cells slots Q (F0 m (pc + 3) ls (.int (sc 34) :: rest))) : W p l e R s m args below meth c H locs cells slots Q (F0 m pc ls (.ref (zad z 27) :: rest)) :=
  va_get (D := zD z) (ci := 9) (C := RX10) (T := TX10) (N := 40) (v := .int (sc 34)) C.1.1 C.1.2.1 C.1.2.2.2.2 iX10 C.1.2.2.2.1 C.2.1 h.1.1 27 rfl rfl 37 (by decide) (C.1.2.2.2.2 _ uw_X10_174) (fun _ h9 => h9) rfl hd k
/-- BandMillModel.faultAt := -/
theorem rp_X10_174 {x : Int32} (C : cX z p m c cc nL s args RX10) (h : hH z v sc ar s H locs) (hd : decode cc pc = .ok (.putfield 174, 3)) (k : ∀ (H1 : Heap) (locs1 : List Loc), hH z v (va_up sc 34 x) ar s H1 locs1 → W p l e R s m args below meth c H1 locs1 cells slots Q (F0 m (pc + 3) ls rest)) : W p l e R s m args below meth c H locs cells slots Q (F0 m pc ls (.int x :: .ref (zad z 27) :: rest)) :=
  va_put (D := zD z) (ci := 9) (ty := .int) (C := RX10) (T := TX10) (N := 40) (v := .int x) C.1.1 C.1.2.1 C.1.2.2.2.2 iX10 tyX10 tyX10_ok nmX10 C.1.2.2.2.1 C.2.1 h.1.1 h.1.2 h.2 27 rfl rfl 37 (by decide) (C.1.2.2.2.2 _ uw_X10_174) (fun _ h9 => h9) rfl (by decide +kernel) rfl rfl (Nat.le_of_ble_eq_true rfl) hd (fun H1 locs1 hP hD hS => k H1 locs1 ⟨⟨hP, hD⟩, hS⟩)
/-- BandMillModel.at -/
theorem rg_X10_177 (C : cX z p m c cc nL s args RX10) (h : hH z v sc ar s H locs) (hd : decode cc pc = .ok (.getfield 177, 3)) (k : W p l e R s m args below meth c H locs cells slots Q (F0 m (pc + 3) ls (.int (sc 32) :: rest))) : W p l e R s m args below meth c H locs cells slots Q (F0 m pc ls (.ref (zad z 27) :: rest)) :=
  va_get (D := zD z) (ci := 9) (C := RX10) (T := TX10) (N := 40) (v := .int (sc 32)) C.1.1 C.1.2.1 C.1.2.2.2.2 iX10 C.1.2.2.2.1 C.2.1 h.1.1 27 rfl rfl 35 (by decide) (C.1.2.2.2.2 _ uw_X10_177) (fun _ h9 => h9) rfl hd k
/-- BandMillModel.at := -/
theorem rp_X10_177 {x : Int32} (C : cX z p m c cc nL s args RX10) (h : hH z v sc ar s H locs) (hd : decode cc pc = .ok (.putfield 177, 3)) (k : ∀ (H1 : Heap) (locs1 : List Loc), hH z v (va_up sc 32 x) ar s H1 locs1 → W p l e R s m args below meth c H1 locs1 cells slots Q (F0 m (pc + 3) ls rest)) : W p l e R s m args below meth c H locs cells slots Q (F0 m pc ls (.int x :: .ref (zad z 27) :: rest)) :=
  va_put (D := zD z) (ci := 9) (ty := .int) (C := RX10) (T := TX10) (N := 40) (v := .int x) C.1.1 C.1.2.1 C.1.2.2.2.2 iX10 tyX10 tyX10_ok nmX10 C.1.2.2.2.1 C.2.1 h.1.1 h.1.2 h.2 27 rfl rfl 35 (by decide) (C.1.2.2.2.2 _ uw_X10_177) (fun _ h9 => h9) rfl (by decide +kernel) rfl rfl (Nat.le_of_ble_eq_true rfl) hd (fun H1 locs1 hP hD hS => k H1 locs1 ⟨⟨hP, hD⟩, hS⟩)
/-- BandMillModel.reading -/
theorem rg_X10_186 (C : cX z p m c cc nL s args RX10) (h : hH z v sc ar s H locs) (hd : decode cc pc = .ok (.getfield 186, 3)) (k : W p l e R s m args below meth c H locs cells slots Q (F0 m (pc + 3) ls (.int (sc 24) :: rest))) : W p l e R s m args below meth c H locs cells slots Q (F0 m pc ls (.ref (zad z 27) :: rest)) :=
  va_get (D := zD z) (ci := 9) (C := RX10) (T := TX10) (N := 40) (v := .int (sc 24)) C.1.1 C.1.2.1 C.1.2.2.2.2 iX10 C.1.2.2.2.1 C.2.1 h.1.1 27 rfl rfl 11 (by decide) (C.1.2.2.2.2 _ uw_X10_186) (fun _ h9 => h9) rfl hd k
/-- BandMillModel.reading := -/
theorem rp_X10_186 {x : Int32} (C : cX z p m c cc nL s args RX10) (h : hH z v sc ar s H locs) (hd : decode cc pc = .ok (.putfield 186, 3)) (k : ∀ (H1 : Heap) (locs1 : List Loc), hH z v (va_up sc 24 x) ar s H1 locs1 → W p l e R s m args below meth c H1 locs1 cells slots Q (F0 m (pc + 3) ls rest)) : W p l e R s m args below meth c H locs cells slots Q (F0 m pc ls (.int x :: .ref (zad z 27) :: rest)) :=
  va_put (D := zD z) (ci := 9) (ty := .int) (C := RX10) (T := TX10) (N := 40) (v := .int x) C.1.1 C.1.2.1 C.1.2.2.2.2 iX10 tyX10 tyX10_ok nmX10 C.1.2.2.2.1 C.2.1 h.1.1 h.1.2 h.2 27 rfl rfl 11 (by decide) (C.1.2.2.2.2 _ uw_X10_186) (fun _ h9 => h9) rfl (by decide +kernel) rfl rfl (Nat.le_of_ble_eq_true rfl) hd (fun H1 locs1 hP hD hS => k H1 locs1 ⟨⟨hP, hD⟩, hS⟩)
/-- BandMill$Desk.frames -/
theorem rg_X2_27 (C : cX z p m c cc nL s args RX2) (h : hH z v sc ar s H locs) (hd : decode cc pc = .ok (.getfield 27, 3)) (k : W p l e R s m args below meth c H locs cells slots Q (F0 m (pc + 3) ls (.ref (zad z 10) :: rest))) : W p l e R s m args below meth c H locs cells slots Q (F0 m pc ls (.ref (zad z 1) :: rest)) :=
  va_get (D := zD z) (ci := 2) (C := RX2) (T := TX2) (N := 3) (v := .ref (zad z 10)) C.1.1 C.1.2.1 C.1.2.2.2.2 iX2 C.1.2.2.2.1 C.2.1 h.1.1 1 rfl rfl 2 (by decide) (C.1.2.2.2.2 _ uw_X2_27) (fun _ h9 => h9) rfl hd k
/-- BandMill$Desk.frames -/
theorem rg_X4_25 (C : cX z p m c cc nL s args RX4) (h : hH z v sc ar s H locs) (hd : decode cc pc = .ok (.getfield 25, 3)) (k : W p l e R s m args below meth c H locs cells slots Q (F0 m (pc + 3) ls (.ref (zad z 10) :: rest))) : W p l e R s m args below meth c H locs cells slots Q (F0 m pc ls (.ref (zad z 1) :: rest)) :=
  va_getN (D := zD z) (ci := 2) (C := RX2) (T := TX2) (N := 3) (v := .ref (zad z 10)) C.1.1 C.1.2.1 C.1.2.2.2.2 iX2 C.1.2.2.2.1 C.2.1 h.1.1 1 rfl rfl 2 (by decide) (va_Nw.use rfl (C.2.2.2.1 _ (List.mem_of_getElem? (i := 13) rfl))) (fun _ h9 => h9) rfl hd k
/-- BandMill$Desk.census -/
theorem rg_X4_34 (C : cX z p m c cc nL s args RX4) (h : hH z v sc ar s H locs) (hd : decode cc pc = .ok (.getfield 34, 3)) (k : W p l e R s m args below meth c H locs cells slots Q (F0 m (pc + 3) ls (.ref (zad z 3) :: rest))) : W p l e R s m args below meth c H locs cells slots Q (F0 m pc ls (.ref (zad z 1) :: rest)) :=
  va_getN (D := zD z) (ci := 2) (C := RX2) (T := TX2) (N := 3) (v := .ref (zad z 3)) C.1.1 C.1.2.1 C.1.2.2.2.2 iX2 C.1.2.2.2.1 C.2.1 h.1.1 1 rfl rfl 1 (by decide) (va_Nw.use rfl (C.2.2.2.1 _ (List.mem_of_getElem? (i := 14) rfl))) (fun _ h9 => h9) rfl hd k
/-- BandMill$Desk.tape -/
theorem rg_X4_61 (C : cX z p m c cc nL s args RX4) (h : hH z v sc ar s H locs) (hd : decode cc pc = .ok (.getfield 61, 3)) (k : W p l e R s m args below meth c H locs cells slots Q (F0 m (pc + 3) ls (.ref (zad z 2) :: rest))) : W p l e R s m args below meth c H locs cells slots Q (F0 m pc ls (.ref (zad z 1) :: rest)) :=
  va_getN (D := zD z) (ci := 2) (C := RX2) (T := TX2) (N := 3) (v := .ref (zad z 2)) C.1.1 C.1.2.1 C.1.2.2.2.2 iX2 C.1.2.2.2.1 C.2.1 h.1.1 1 rfl rfl 0 (by decide) (va_Nw.use rfl (C.2.2.2.1 _ (List.mem_of_getElem? (i := 17) rfl))) (fun _ h9 => h9) rfl hd k
/-- BandMill$Tape.cursor -/
theorem rg_X4_65 (C : cX z p m c cc nL s args RX4) (h : hH z v sc ar s H locs) (hd : decode cc pc = .ok (.getfield 65, 3)) (k : W p l e R s m args below meth c H locs cells slots Q (F0 m (pc + 3) ls (.int (sc 6) :: rest))) : W p l e R s m args below meth c H locs cells slots Q (F0 m pc ls (.ref (zad z 2) :: rest)) :=
  va_getN (D := zD z) (ci := 7) (C := RX7) (T := TX7) (N := 7) (v := .int (sc 6)) C.1.1 C.1.2.1 C.1.2.2.2.2 iX7 C.1.2.2.2.1 C.2.1 h.1.1 2 rfl rfl 4 (by decide) (va_Nw.use rfl (C.2.2.2.1 _ (List.mem_of_getElem? (i := 18) rfl))) (fun _ h9 => h9) rfl hd k
/-- BandMill$RunSearch.heads -/
theorem rg_X6_9 (C : cX z p m c cc nL s args RX6) (h : hH z v sc ar s H locs) (hd : decode cc pc = .ok (.getfield 9, 3)) (k : W p l e R s m args below meth c H locs cells slots Q (F0 m (pc + 3) ls (.ref (zad z 17) :: rest))) : W p l e R s m args below meth c H locs cells slots Q (F0 m pc ls (.ref (zad z 4) :: rest)) :=
  va_get (D := zD z) (ci := 6) (C := RX6) (T := TX6) (N := 6) (v := .ref (zad z 17)) C.1.1 C.1.2.1 C.1.2.2.2.2 iX6 C.1.2.2.2.1 C.2.1 h.1.1 4 rfl rfl 0 (by decide) (C.1.2.2.2.2 _ uw_X6_9) (fun _ h9 => h9) rfl hd k
/-- BandMill$RunSearch.tails -/
theorem rg_X6_15 (C : cX z p m c cc nL s args RX6) (h : hH z v sc ar s H locs) (hd : decode cc pc = .ok (.getfield 15, 3)) (k : W p l e R s m args below meth c H locs cells slots Q (F0 m (pc + 3) ls (.ref (zad z 18) :: rest))) : W p l e R s m args below meth c H locs cells slots Q (F0 m pc ls (.ref (zad z 4) :: rest)) :=
  va_get (D := zD z) (ci := 6) (C := RX6) (T := TX6) (N := 6) (v := .ref (zad z 18)) C.1.1 C.1.2.1 C.1.2.2.2.2 iX6 C.1.2.2.2.1 C.2.1 h.1.1 4 rfl rfl 1 (by decide) (C.1.2.2.2.2 _ uw_X6_15) (fun _ h9 => h9) rfl hd k
/-- BandMill$RunSearch.count -/
theorem rg_X6_18 (C : cX z p m c cc nL s args RX6) (h : hH z v sc ar s H locs) (hd : decode cc pc = .ok (.getfield 18, 3)) (k : W p l e R s m args below meth c H locs cells slots Q (F0 m (pc + 3) ls (.int (sc 11) :: rest))) : W p l e R s m args below meth c H locs cells slots Q (F0 m pc ls (.ref (zad z 4) :: rest)) :=
  va_get (D := zD z) (ci := 6) (C := RX6) (T := TX6) (N := 6) (v := .int (sc 11)) C.1.1 C.1.2.1 C.1.2.2.2.2 iX6 C.1.2.2.2.1 C.2.1 h.1.1 4 rfl rfl 2 (by decide) (C.1.2.2.2.2 _ uw_X6_18) (fun _ h9 => h9) rfl hd k
/-- BandMill$RunSearch.count := -/
theorem rp_X6_18 {x : Int32} (C : cX z p m c cc nL s args RX6) (h : hH z v sc ar s H locs) (hd : decode cc pc = .ok (.putfield 18, 3)) (k : ∀ (H1 : Heap) (locs1 : List Loc), hH z v (va_up sc 11 x) ar s H1 locs1 → W p l e R s m args below meth c H1 locs1 cells slots Q (F0 m (pc + 3) ls rest)) : W p l e R s m args below meth c H locs cells slots Q (F0 m pc ls (.int x :: .ref (zad z 4) :: rest)) :=
  va_put (D := zD z) (ci := 6) (ty := .int) (C := RX6) (T := TX6) (N := 6) (v := .int x) C.1.1 C.1.2.1 C.1.2.2.2.2 iX6 tyX6 tyX6_ok nmX6 C.1.2.2.2.1 C.2.1 h.1.1 h.1.2 h.2 4 rfl rfl 2 (by decide) (C.1.2.2.2.2 _ uw_X6_18) (fun _ h9 => h9) rfl (by decide +kernel) rfl rfl (Nat.le_of_ble_eq_true rfl) hd (fun H1 locs1 hP hD hS => k H1 locs1 ⟨⟨hP, hD⟩, hS⟩)
/-- BandMill$RunSearch.chosenN := -/
theorem rp_X6_22 {x : Int32} (C : cX z p m c cc nL s args RX6) (h : hH z v sc ar s H locs) (hd : decode cc pc = .ok (.putfield 22, 3)) (k : ∀ (H1 : Heap) (locs1 : List Loc), hH z v (va_up sc 12 x) ar s H1 locs1 → W p l e R s m args below meth c H1 locs1 cells slots Q (F0 m (pc + 3) ls rest)) : W p l e R s m args below meth c H locs cells slots Q (F0 m pc ls (.int x :: .ref (zad z 4) :: rest)) :=
  va_put (D := zD z) (ci := 6) (ty := .int) (C := RX6) (T := TX6) (N := 6) (v := .int x) C.1.1 C.1.2.1 C.1.2.2.2.2 iX6 tyX6 tyX6_ok nmX6 C.1.2.2.2.1 C.2.1 h.1.1 h.1.2 h.2 4 rfl rfl 3 (by decide) (C.1.2.2.2.2 _ uw_X6_22) (fun _ h9 => h9) rfl (by decide +kernel) rfl rfl (Nat.le_of_ble_eq_true rfl) hd (fun H1 locs1 hP hD hS => k H1 locs1 ⟨⟨hP, hD⟩, hS⟩)
/-- BandMill$RunSearch.chosenFirst := -/
theorem rp_X6_25 {x : Int32} (C : cX z p m c cc nL s args RX6) (h : hH z v sc ar s H locs) (hd : decode cc pc = .ok (.putfield 25, 3)) (k : ∀ (H1 : Heap) (locs1 : List Loc), hH z v (va_up sc 13 x) ar s H1 locs1 → W p l e R s m args below meth c H1 locs1 cells slots Q (F0 m (pc + 3) ls rest)) : W p l e R s m args below meth c H locs cells slots Q (F0 m pc ls (.int x :: .ref (zad z 4) :: rest)) :=
  va_put (D := zD z) (ci := 6) (ty := .int) (C := RX6) (T := TX6) (N := 6) (v := .int x) C.1.1 C.1.2.1 C.1.2.2.2.2 iX6 tyX6 tyX6_ok nmX6 C.1.2.2.2.1 C.2.1 h.1.1 h.1.2 h.2 4 rfl rfl 4 (by decide) (C.1.2.2.2.2 _ uw_X6_25) (fun _ h9 => h9) rfl (by decide +kernel) rfl rfl (Nat.le_of_ble_eq_true rfl) hd (fun H1 locs1 hP hD hS => k H1 locs1 ⟨⟨hP, hD⟩, hS⟩)
/-- BandMill$RunSearch.chosenOther := -/
theorem rp_X6_28 {x : Int32} (C : cX z p m c cc nL s args RX6) (h : hH z v sc ar s H locs) (hd : decode cc pc = .ok (.putfield 28, 3)) (k : ∀ (H1 : Heap) (locs1 : List Loc), hH z v (va_up sc 14 x) ar s H1 locs1 → W p l e R s m args below meth c H1 locs1 cells slots Q (F0 m (pc + 3) ls rest)) : W p l e R s m args below meth c H locs cells slots Q (F0 m pc ls (.int x :: .ref (zad z 4) :: rest)) :=
  va_put (D := zD z) (ci := 6) (ty := .int) (C := RX6) (T := TX6) (N := 6) (v := .int x) C.1.1 C.1.2.1 C.1.2.2.2.2 iX6 tyX6 tyX6_ok nmX6 C.1.2.2.2.1 C.2.1 h.1.1 h.1.2 h.2 4 rfl rfl 5 (by decide) (C.1.2.2.2.2 _ uw_X6_28) (fun _ h9 => h9) rfl (by decide +kernel) rfl rfl (Nat.le_of_ble_eq_true rfl) hd (fun H1 locs1 hP hD hS => k H1 locs1 ⟨⟨hP, hD⟩, hS⟩)
/-- BandMill$Tape.bytes -/
theorem rg_X7_9 (C : cX z p m c cc nL s args RX7) (h : hH z v sc ar s H locs) (hd : decode cc pc = .ok (.getfield 9, 3)) (k : W p l e R s m args below meth c H locs cells slots Q (F0 m (pc + 3) ls (.ref (zad z 11) :: rest))) : W p l e R s m args below meth c H locs cells slots Q (F0 m pc ls (.ref (zad z 2) :: rest)) :=
  va_get (D := zD z) (ci := 7) (C := RX7) (T := TX7) (N := 7) (v := .ref (zad z 11)) C.1.1 C.1.2.1 C.1.2.2.2.2 iX7 C.1.2.2.2.1 C.2.1 h.1.1 2 rfl rfl 0 (by decide) (C.1.2.2.2.2 _ uw_X7_9) (fun _ h9 => h9) rfl hd k
/-- BandMill$Tape.length -/
theorem rg_X7_15 (C : cX z p m c cc nL s args RX7) (h : hH z v sc ar s H locs) (hd : decode cc pc = .ok (.getfield 15, 3)) (k : W p l e R s m args below meth c H locs cells slots Q (F0 m (pc + 3) ls (.int (sc 3) :: rest))) : W p l e R s m args below meth c H locs cells slots Q (F0 m pc ls (.ref (zad z 2) :: rest)) :=
  va_get (D := zD z) (ci := 7) (C := RX7) (T := TX7) (N := 7) (v := .int (sc 3)) C.1.1 C.1.2.1 C.1.2.2.2.2 iX7 C.1.2.2.2.1 C.2.1 h.1.1 2 rfl rfl 1 (by decide) (C.1.2.2.2.2 _ uw_X7_15) (fun _ h9 => h9) rfl hd k
/-- BandMill$Tape.length := -/
theorem rp_X7_15 {x : Int32} (C : cX z p m c cc nL s args RX7) (h : hH z v sc ar s H locs) (hd : decode cc pc = .ok (.putfield 15, 3)) (k : ∀ (H1 : Heap) (locs1 : List Loc), hH z v (va_up sc 3 x) ar s H1 locs1 → W p l e R s m args below meth c H1 locs1 cells slots Q (F0 m (pc + 3) ls rest)) : W p l e R s m args below meth c H locs cells slots Q (F0 m pc ls (.int x :: .ref (zad z 2) :: rest)) :=
  va_put (D := zD z) (ci := 7) (ty := .int) (C := RX7) (T := TX7) (N := 7) (v := .int x) C.1.1 C.1.2.1 C.1.2.2.2.2 iX7 tyX7 tyX7_ok nmX7 C.1.2.2.2.1 C.2.1 h.1.1 h.1.2 h.2 2 rfl rfl 1 (by decide) (C.1.2.2.2.2 _ uw_X7_15) (fun _ h9 => h9) rfl (by decide +kernel) rfl rfl (Nat.le_of_ble_eq_true rfl) hd (fun H1 locs1 hP hD hS => k H1 locs1 ⟨⟨hP, hD⟩, hS⟩)
/-- BandMill$Tape.readFrom -/
theorem rg_X7_19 (C : cX z p m c cc nL s args RX7) (h : hH z v sc ar s H locs) (hd : decode cc pc = .ok (.getfield 19, 3)) (k : W p l e R s m args below meth c H locs cells slots Q (F0 m (pc + 3) ls (.int (sc 4) :: rest))) : W p l e R s m args below meth c H locs cells slots Q (F0 m pc ls (.ref (zad z 2) :: rest)) :=
  va_get (D := zD z) (ci := 7) (C := RX7) (T := TX7) (N := 7) (v := .int (sc 4)) C.1.1 C.1.2.1 C.1.2.2.2.2 iX7 C.1.2.2.2.1 C.2.1 h.1.1 2 rfl rfl 2 (by decide) (C.1.2.2.2.2 _ uw_X7_19) (fun _ h9 => h9) rfl hd k
/-- BandMill$Tape.readFrom := -/
theorem rp_X7_19 {x : Int32} (C : cX z p m c cc nL s args RX7) (h : hH z v sc ar s H locs) (hd : decode cc pc = .ok (.putfield 19, 3)) (k : ∀ (H1 : Heap) (locs1 : List Loc), hH z v (va_up sc 4 x) ar s H1 locs1 → W p l e R s m args below meth c H1 locs1 cells slots Q (F0 m (pc + 3) ls rest)) : W p l e R s m args below meth c H locs cells slots Q (F0 m pc ls (.int x :: .ref (zad z 2) :: rest)) :=
  va_put (D := zD z) (ci := 7) (ty := .int) (C := RX7) (T := TX7) (N := 7) (v := .int x) C.1.1 C.1.2.1 C.1.2.2.2.2 iX7 tyX7 tyX7_ok nmX7 C.1.2.2.2.1 C.2.1 h.1.1 h.1.2 h.2 2 rfl rfl 2 (by decide) (C.1.2.2.2.2 _ uw_X7_19) (fun _ h9 => h9) rfl (by decide +kernel) rfl rfl (Nat.le_of_ble_eq_true rfl) hd (fun H1 locs1 hP hD hS => k H1 locs1 ⟨⟨hP, hD⟩, hS⟩)
/-- BandMill$Tape.drafted -/
theorem rg_X7_22 (C : cX z p m c cc nL s args RX7) (h : hH z v sc ar s H locs) (hd : decode cc pc = .ok (.getfield 22, 3)) (k : W p l e R s m args below meth c H locs cells slots Q (F0 m (pc + 3) ls (.int (sc 5) :: rest))) : W p l e R s m args below meth c H locs cells slots Q (F0 m pc ls (.ref (zad z 2) :: rest)) :=
  va_get (D := zD z) (ci := 7) (C := RX7) (T := TX7) (N := 7) (v := .int (sc 5)) C.1.1 C.1.2.1 C.1.2.2.2.2 iX7 C.1.2.2.2.1 C.2.1 h.1.1 2 rfl rfl 3 (by decide) (C.1.2.2.2.2 _ uw_X7_22) (fun _ h9 => h9) rfl hd k
/-- BandMill$Tape.drafted := -/
theorem rp_X7_22 {x : Int32} (C : cX z p m c cc nL s args RX7) (h : hH z v sc ar s H locs) (hd : decode cc pc = .ok (.putfield 22, 3)) (k : ∀ (H1 : Heap) (locs1 : List Loc), hH z v (va_up sc 5 x) ar s H1 locs1 → W p l e R s m args below meth c H1 locs1 cells slots Q (F0 m (pc + 3) ls rest)) : W p l e R s m args below meth c H locs cells slots Q (F0 m pc ls (.int x :: .ref (zad z 2) :: rest)) :=
  va_put (D := zD z) (ci := 7) (ty := .int) (C := RX7) (T := TX7) (N := 7) (v := .int x) C.1.1 C.1.2.1 C.1.2.2.2.2 iX7 tyX7 tyX7_ok nmX7 C.1.2.2.2.1 C.2.1 h.1.1 h.1.2 h.2 2 rfl rfl 3 (by decide) (C.1.2.2.2.2 _ uw_X7_22) (fun _ h9 => h9) rfl (by decide +kernel) rfl rfl (Nat.le_of_ble_eq_true rfl) hd (fun H1 locs1 hP hD hS => k H1 locs1 ⟨⟨hP, hD⟩, hS⟩)
/-- BandMill$Tape.cursor -/
theorem rg_X7_25 (C : cX z p m c cc nL s args RX7) (h : hH z v sc ar s H locs) (hd : decode cc pc = .ok (.getfield 25, 3)) (k : W p l e R s m args below meth c H locs cells slots Q (F0 m (pc + 3) ls (.int (sc 6) :: rest))) : W p l e R s m args below meth c H locs cells slots Q (F0 m pc ls (.ref (zad z 2) :: rest)) :=
  va_get (D := zD z) (ci := 7) (C := RX7) (T := TX7) (N := 7) (v := .int (sc 6)) C.1.1 C.1.2.1 C.1.2.2.2.2 iX7 C.1.2.2.2.1 C.2.1 h.1.1 2 rfl rfl 4 (by decide) (C.1.2.2.2.2 _ uw_X7_25) (fun _ h9 => h9) rfl hd k
/-- BandMill$Tape.cursor := -/
theorem rp_X7_25 {x : Int32} (C : cX z p m c cc nL s args RX7) (h : hH z v sc ar s H locs) (hd : decode cc pc = .ok (.putfield 25, 3)) (k : ∀ (H1 : Heap) (locs1 : List Loc), hH z v (va_up sc 6 x) ar s H1 locs1 → W p l e R s m args below meth c H1 locs1 cells slots Q (F0 m (pc + 3) ls rest)) : W p l e R s m args below meth c H locs cells slots Q (F0 m pc ls (.int x :: .ref (zad z 2) :: rest)) :=
  va_put (D := zD z) (ci := 7) (ty := .int) (C := RX7) (T := TX7) (N := 7) (v := .int x) C.1.1 C.1.2.1 C.1.2.2.2.2 iX7 tyX7 tyX7_ok nmX7 C.1.2.2.2.1 C.2.1 h.1.1 h.1.2 h.2 2 rfl rfl 4 (by decide) (C.1.2.2.2.2 _ uw_X7_25) (fun _ h9 => h9) rfl (by decide +kernel) rfl rfl (Nat.le_of_ble_eq_true rfl) hd (fun H1 locs1 hP hD hS => k H1 locs1 ⟨⟨hP, hD⟩, hS⟩)
/-- BandMill$Tape.fault := -/
theorem rp_X7_28 {x : Int32} (C : cX z p m c cc nL s args RX7) (h : hH z v sc ar s H locs) (hd : decode cc pc = .ok (.putfield 28, 3)) (k : ∀ (H1 : Heap) (locs1 : List Loc), hH z v (va_up sc 7 x) ar s H1 locs1 → W p l e R s m args below meth c H1 locs1 cells slots Q (F0 m (pc + 3) ls rest)) : W p l e R s m args below meth c H locs cells slots Q (F0 m pc ls (.int x :: .ref (zad z 2) :: rest)) :=
  va_put (D := zD z) (ci := 7) (ty := .int) (C := RX7) (T := TX7) (N := 7) (v := .int x) C.1.1 C.1.2.1 C.1.2.2.2.2 iX7 tyX7 tyX7_ok nmX7 C.1.2.2.2.1 C.2.1 h.1.1 h.1.2 h.2 2 rfl rfl 5 (by decide) (C.1.2.2.2.2 _ uw_X7_28) (fun _ h9 => h9) rfl (by decide +kernel) rfl rfl (Nat.le_of_ble_eq_true rfl) hd (fun H1 locs1 hP hD hS => k H1 locs1 ⟨⟨hP, hD⟩, hS⟩)
/-- BandMill$Tape.faultPlace := -/
theorem rp_X7_31 {x : Int32} (C : cX z p m c cc nL s args RX7) (h : hH z v sc ar s H locs) (hd : decode cc pc = .ok (.putfield 31, 3)) (k : ∀ (H1 : Heap) (locs1 : List Loc), hH z v (va_up sc 8 x) ar s H1 locs1 → W p l e R s m args below meth c H1 locs1 cells slots Q (F0 m (pc + 3) ls rest)) : W p l e R s m args below meth c H locs cells slots Q (F0 m pc ls (.int x :: .ref (zad z 2) :: rest)) :=
  va_put (D := zD z) (ci := 7) (ty := .int) (C := RX7) (T := TX7) (N := 7) (v := .int x) C.1.1 C.1.2.1 C.1.2.2.2.2 iX7 tyX7 tyX7_ok nmX7 C.1.2.2.2.1 C.2.1 h.1.1 h.1.2 h.2 2 rfl rfl 6 (by decide) (C.1.2.2.2.2 _ uw_X7_31) (fun _ h9 => h9) rfl (by decide +kernel) rfl rfl (Nat.le_of_ble_eq_true rfl) hd (fun H1 locs1 hP hD hS => k H1 locs1 ⟨⟨hP, hD⟩, hS⟩)
/-- BandMill.ways -/
theorem rg_X9_11 (C : cX z p m c cc nL s args RX9) (h : hH z v sc ar s H locs) (hd : decode cc pc = .ok (.getfield 11, 3)) (k : W p l e R s m args below meth c H locs cells slots Q (F0 m (pc + 3) ls (.ref (zad z 9) :: rest))) : W p l e R s m args below meth c H locs cells slots Q (F0 m pc ls (.ref (zad z 0) :: rest)) :=
  va_get (D := zD z) (ci := 8) (C := RX9) (T := TX9) (N := 8) (v := .ref (zad z 9)) C.1.1 C.1.2.1 C.1.2.2.2.2 iX9 C.1.2.2.2.1 C.2.1 h.1.1 0 rfl rfl 0 (by decide) (C.1.2.2.2.2 _ uw_X9_11) (fun _ h9 => h9) rfl hd k
/-- BandMill.wayCount -/
theorem rg_X9_15 (C : cX z p m c cc nL s args RX9) (h : hH z v sc ar s H locs) (hd : decode cc pc = .ok (.getfield 15, 3)) (k : W p l e R s m args below meth c H locs cells slots Q (F0 m (pc + 3) ls (.int (sc 0) :: rest))) : W p l e R s m args below meth c H locs cells slots Q (F0 m pc ls (.ref (zad z 0) :: rest)) :=
  va_get (D := zD z) (ci := 8) (C := RX9) (T := TX9) (N := 8) (v := .int (sc 0)) C.1.1 C.1.2.1 C.1.2.2.2.2 iX9 C.1.2.2.2.1 C.2.1 h.1.1 0 rfl rfl 1 (by decide) (C.1.2.2.2.2 _ uw_X9_15) (fun _ h9 => h9) rfl hd k
/-- BandMill.wayCount := -/
theorem rp_X9_15 {x : Int32} (C : cX z p m c cc nL s args RX9) (h : hH z v sc ar s H locs) (hd : decode cc pc = .ok (.putfield 15, 3)) (k : ∀ (H1 : Heap) (locs1 : List Loc), hH z v (va_up sc 0 x) ar s H1 locs1 → W p l e R s m args below meth c H1 locs1 cells slots Q (F0 m (pc + 3) ls rest)) : W p l e R s m args below meth c H locs cells slots Q (F0 m pc ls (.int x :: .ref (zad z 0) :: rest)) :=
  va_put (D := zD z) (ci := 8) (ty := .int) (C := RX9) (T := TX9) (N := 8) (v := .int x) C.1.1 C.1.2.1 C.1.2.2.2.2 iX9 tyX9 tyX9_ok nmX9 C.1.2.2.2.1 C.2.1 h.1.1 h.1.2 h.2 0 rfl rfl 1 (by decide) (C.1.2.2.2.2 _ uw_X9_15) (fun _ h9 => h9) rfl (by decide +kernel) rfl rfl (Nat.le_of_ble_eq_true rfl) hd (fun H1 locs1 hP hD hS => k H1 locs1 ⟨⟨hP, hD⟩, hS⟩)
/-- BandMill.numbers -/
theorem rg_X9_19 (C : cX z p m c cc nL s args RX9) (h : hH z v sc ar s H locs) (hd : decode cc pc = .ok (.getfield 19, 3)) (k : W p l e R s m args below meth c H locs cells slots Q (F0 m (pc + 3) ls (.ref (zad z 12) :: rest))) : W p l e R s m args below meth c H locs cells slots Q (F0 m pc ls (.ref (zad z 0) :: rest)) :=
  va_get (D := zD z) (ci := 8) (C := RX9) (T := TX9) (N := 8) (v := .ref (zad z 12)) C.1.1 C.1.2.1 C.1.2.2.2.2 iX9 C.1.2.2.2.1 C.2.1 h.1.1 0 rfl rfl 2 (by decide) (C.1.2.2.2.2 _ uw_X9_19) (fun _ h9 => h9) rfl hd k
/-- BandMill.numberCount -/
theorem rg_X9_23 (C : cX z p m c cc nL s args RX9) (h : hH z v sc ar s H locs) (hd : decode cc pc = .ok (.getfield 23, 3)) (k : W p l e R s m args below meth c H locs cells slots Q (F0 m (pc + 3) ls (.int (sc 1) :: rest))) : W p l e R s m args below meth c H locs cells slots Q (F0 m pc ls (.ref (zad z 0) :: rest)) :=
  va_get (D := zD z) (ci := 8) (C := RX9) (T := TX9) (N := 8) (v := .int (sc 1)) C.1.1 C.1.2.1 C.1.2.2.2.2 iX9 C.1.2.2.2.1 C.2.1 h.1.1 0 rfl rfl 3 (by decide) (C.1.2.2.2.2 _ uw_X9_23) (fun _ h9 => h9) rfl hd k
/-- BandMill.numberCount := -/
theorem rp_X9_23 {x : Int32} (C : cX z p m c cc nL s args RX9) (h : hH z v sc ar s H locs) (hd : decode cc pc = .ok (.putfield 23, 3)) (k : ∀ (H1 : Heap) (locs1 : List Loc), hH z v (va_up sc 1 x) ar s H1 locs1 → W p l e R s m args below meth c H1 locs1 cells slots Q (F0 m (pc + 3) ls rest)) : W p l e R s m args below meth c H locs cells slots Q (F0 m pc ls (.int x :: .ref (zad z 0) :: rest)) :=
  va_put (D := zD z) (ci := 8) (ty := .int) (C := RX9) (T := TX9) (N := 8) (v := .int x) C.1.1 C.1.2.1 C.1.2.2.2.2 iX9 tyX9 tyX9_ok nmX9 C.1.2.2.2.1 C.2.1 h.1.1 h.1.2 h.2 0 rfl rfl 3 (by decide) (C.1.2.2.2.2 _ uw_X9_23) (fun _ h9 => h9) rfl (by decide +kernel) rfl rfl (Nat.le_of_ble_eq_true rfl) hd (fun H1 locs1 hP hD hS => k H1 locs1 ⟨⟨hP, hD⟩, hS⟩)
/-- BandMill.unpacked -/
theorem rg_X9_26 (C : cX z p m c cc nL s args RX9) (h : hH z v sc ar s H locs) (hd : decode cc pc = .ok (.getfield 26, 3)) (k : W p l e R s m args below meth c H locs cells slots Q (F0 m (pc + 3) ls (.ref (zad z 13) :: rest))) : W p l e R s m args below meth c H locs cells slots Q (F0 m pc ls (.ref (zad z 0) :: rest)) :=
  va_get (D := zD z) (ci := 8) (C := RX9) (T := TX9) (N := 8) (v := .ref (zad z 13)) C.1.1 C.1.2.1 C.1.2.2.2.2 iX9 C.1.2.2.2.1 C.2.1 h.1.1 0 rfl rfl 4 (by decide) (C.1.2.2.2.2 _ uw_X9_26) (fun _ h9 => h9) rfl hd k
/-- BandMill.desk -/
theorem rg_X9_32 (C : cX z p m c cc nL s args RX9) (h : hH z v sc ar s H locs) (hd : decode cc pc = .ok (.getfield 32, 3)) (k : W p l e R s m args below meth c H locs cells slots Q (F0 m (pc + 3) ls (.ref (zad z 1) :: rest))) : W p l e R s m args below meth c H locs cells slots Q (F0 m pc ls (.ref (zad z 0) :: rest)) :=
  va_get (D := zD z) (ci := 8) (C := RX9) (T := TX9) (N := 8) (v := .ref (zad z 1)) C.1.1 C.1.2.1 C.1.2.2.2.2 iX9 C.1.2.2.2.1 C.2.1 h.1.1 0 rfl rfl 5 (by decide) (C.1.2.2.2.2 _ uw_X9_32) (fun _ h9 => h9) rfl hd k
/-- BandMill.search -/
theorem rg_X9_39 (C : cX z p m c cc nL s args RX9) (h : hH z v sc ar s H locs) (hd : decode cc pc = .ok (.getfield 39, 3)) (k : W p l e R s m args below meth c H locs cells slots Q (F0 m (pc + 3) ls (.ref (zad z 4) :: rest))) : W p l e R s m args below meth c H locs cells slots Q (F0 m pc ls (.ref (zad z 0) :: rest)) :=
  va_get (D := zD z) (ci := 8) (C := RX9) (T := TX9) (N := 8) (v := .ref (zad z 4)) C.1.1 C.1.2.1 C.1.2.2.2.2 iX9 C.1.2.2.2.1 C.2.1 h.1.1 0 rfl rfl 6 (by decide) (C.1.2.2.2.2 _ uw_X9_39) (fun _ h9 => h9) rfl hd k
/-- BandMill.faultPlace -/
theorem rg_X9_43 (C : cX z p m c cc nL s args RX9) (h : hH z v sc ar s H locs) (hd : decode cc pc = .ok (.getfield 43, 3)) (k : W p l e R s m args below meth c H locs cells slots Q (F0 m (pc + 3) ls (.int (sc 2) :: rest))) : W p l e R s m args below meth c H locs cells slots Q (F0 m pc ls (.ref (zad z 0) :: rest)) :=
  va_get (D := zD z) (ci := 8) (C := RX9) (T := TX9) (N := 8) (v := .int (sc 2)) C.1.1 C.1.2.1 C.1.2.2.2.2 iX9 C.1.2.2.2.1 C.2.1 h.1.1 0 rfl rfl 7 (by decide) (C.1.2.2.2.2 _ uw_X9_43) (fun _ h9 => h9) rfl hd k
/-- BandMill.faultPlace := -/
theorem rp_X9_43 {x : Int32} (C : cX z p m c cc nL s args RX9) (h : hH z v sc ar s H locs) (hd : decode cc pc = .ok (.putfield 43, 3)) (k : ∀ (H1 : Heap) (locs1 : List Loc), hH z v (va_up sc 2 x) ar s H1 locs1 → W p l e R s m args below meth c H1 locs1 cells slots Q (F0 m (pc + 3) ls rest)) : W p l e R s m args below meth c H locs cells slots Q (F0 m pc ls (.int x :: .ref (zad z 0) :: rest)) :=
  va_put (D := zD z) (ci := 8) (ty := .int) (C := RX9) (T := TX9) (N := 8) (v := .int x) C.1.1 C.1.2.1 C.1.2.2.2.2 iX9 tyX9 tyX9_ok nmX9 C.1.2.2.2.1 C.2.1 h.1.1 h.1.2 h.2 0 rfl rfl 7 (by decide) (C.1.2.2.2.2 _ uw_X9_43) (fun _ h9 => h9) rfl (by decide +kernel) rfl rfl (Nat.le_of_ble_eq_true rfl) hd (fun H1 locs1 hP hD hS => k H1 locs1 ⟨⟨hP, hD⟩, hS⟩)
/-- BandMill$Desk.tape -/
theorem rg_X9_99 (C : cX z p m c cc nL s args RX9) (h : hH z v sc ar s H locs) (hd : decode cc pc = .ok (.getfield 99, 3)) (k : W p l e R s m args below meth c H locs cells slots Q (F0 m (pc + 3) ls (.ref (zad z 2) :: rest))) : W p l e R s m args below meth c H locs cells slots Q (F0 m pc ls (.ref (zad z 1) :: rest)) :=
  va_getN (D := zD z) (ci := 2) (C := RX2) (T := TX2) (N := 3) (v := .ref (zad z 2)) C.1.1 C.1.2.1 C.1.2.2.2.2 iX2 C.1.2.2.2.1 C.2.1 h.1.1 1 rfl rfl 0 (by decide) (va_Nw.use rfl (C.2.2.2.1 _ (List.mem_of_getElem? (i := 8) rfl))) (fun _ h9 => h9) rfl hd k
/-- BandMill$Tape.faultPlace -/
theorem rg_X9_115 (C : cX z p m c cc nL s args RX9) (h : hH z v sc ar s H locs) (hd : decode cc pc = .ok (.getfield 115, 3)) (k : W p l e R s m args below meth c H locs cells slots Q (F0 m (pc + 3) ls (.int (sc 8) :: rest))) : W p l e R s m args below meth c H locs cells slots Q (F0 m pc ls (.ref (zad z 2) :: rest)) :=
  va_getN (D := zD z) (ci := 7) (C := RX7) (T := TX7) (N := 7) (v := .int (sc 8)) C.1.1 C.1.2.1 C.1.2.2.2.2 iX7 C.1.2.2.2.1 C.2.1 h.1.1 2 rfl rfl 6 (by decide) (va_Nw.use rfl (C.2.2.2.1 _ (List.mem_of_getElem? (i := 0) rfl))) (fun _ h9 => h9) rfl hd k
/-- BandMill$Tape.fault -/
theorem rg_X9_116 (C : cX z p m c cc nL s args RX9) (h : hH z v sc ar s H locs) (hd : decode cc pc = .ok (.getfield 116, 3)) (k : W p l e R s m args below meth c H locs cells slots Q (F0 m (pc + 3) ls (.int (sc 7) :: rest))) : W p l e R s m args below meth c H locs cells slots Q (F0 m pc ls (.ref (zad z 2) :: rest)) :=
  va_getN (D := zD z) (ci := 7) (C := RX7) (T := TX7) (N := 7) (v := .int (sc 7)) C.1.1 C.1.2.1 C.1.2.2.2.2 iX7 C.1.2.2.2.1 C.2.1 h.1.1 2 rfl rfl 5 (by decide) (va_Nw.use rfl (C.2.2.2.1 _ (List.mem_of_getElem? (i := 1) rfl))) (fun _ h9 => h9) rfl hd k
/-- BandMill$RunSearch.chosenN -/
theorem rg_X9_142 (C : cX z p m c cc nL s args RX9) (h : hH z v sc ar s H locs) (hd : decode cc pc = .ok (.getfield 142, 3)) (k : W p l e R s m args below meth c H locs cells slots Q (F0 m (pc + 3) ls (.int (sc 12) :: rest))) : W p l e R s m args below meth c H locs cells slots Q (F0 m pc ls (.ref (zad z 4) :: rest)) :=
  va_getN (D := zD z) (ci := 6) (C := RX6) (T := TX6) (N := 6) (v := .int (sc 12)) C.1.1 C.1.2.1 C.1.2.2.2.2 iX6 C.1.2.2.2.1 C.2.1 h.1.1 4 rfl rfl 3 (by decide) (va_Nw.use rfl (C.2.2.2.1 _ (List.mem_of_getElem? (i := 2) rfl))) (fun _ h9 => h9) rfl hd k
/-- BandMill$RunSearch.chosenFirst -/
theorem rg_X9_145 (C : cX z p m c cc nL s args RX9) (h : hH z v sc ar s H locs) (hd : decode cc pc = .ok (.getfield 145, 3)) (k : W p l e R s m args below meth c H locs cells slots Q (F0 m (pc + 3) ls (.int (sc 13) :: rest))) : W p l e R s m args below meth c H locs cells slots Q (F0 m pc ls (.ref (zad z 4) :: rest)) :=
  va_getN (D := zD z) (ci := 6) (C := RX6) (T := TX6) (N := 6) (v := .int (sc 13)) C.1.1 C.1.2.1 C.1.2.2.2.2 iX6 C.1.2.2.2.1 C.2.1 h.1.1 4 rfl rfl 4 (by decide) (va_Nw.use rfl (C.2.2.2.1 _ (List.mem_of_getElem? (i := 3) rfl))) (fun _ h9 => h9) rfl hd k
/-- BandMill$RunSearch.chosenOther -/
theorem rg_X9_148 (C : cX z p m c cc nL s args RX9) (h : hH z v sc ar s H locs) (hd : decode cc pc = .ok (.getfield 148, 3)) (k : W p l e R s m args below meth c H locs cells slots Q (F0 m (pc + 3) ls (.int (sc 14) :: rest))) : W p l e R s m args below meth c H locs cells slots Q (F0 m pc ls (.ref (zad z 4) :: rest)) :=
  va_getN (D := zD z) (ci := 6) (C := RX6) (T := TX6) (N := 6) (v := .int (sc 14)) C.1.1 C.1.2.1 C.1.2.2.2.2 iX6 C.1.2.2.2.1 C.2.1 h.1.1 4 rfl rfl 5 (by decide) (va_Nw.use rfl (C.2.2.2.1 _ (List.mem_of_getElem? (i := 4) rfl))) (fun _ h9 => h9) rfl hd k
/-- BandMill$Tape.length -/
theorem rg_X9_162 (C : cX z p m c cc nL s args RX9) (h : hH z v sc ar s H locs) (hd : decode cc pc = .ok (.getfield 162, 3)) (k : W p l e R s m args below meth c H locs cells slots Q (F0 m (pc + 3) ls (.int (sc 3) :: rest))) : W p l e R s m args below meth c H locs cells slots Q (F0 m pc ls (.ref (zad z 2) :: rest)) :=
  va_getN (D := zD z) (ci := 7) (C := RX7) (T := TX7) (N := 7) (v := .int (sc 3)) C.1.1 C.1.2.1 C.1.2.2.2.2 iX7 C.1.2.2.2.1 C.2.1 h.1.1 2 rfl rfl 1 (by decide) (va_Nw.use rfl (C.2.2.2.1 _ (List.mem_of_getElem? (i := 5) rfl))) (fun _ h9 => h9) rfl hd k
/-- BandMill$Tape.length := -/
theorem rp_X9_162 {x : Int32} (C : cX z p m c cc nL s args RX9) (h : hH z v sc ar s H locs) (hd : decode cc pc = .ok (.putfield 162, 3)) (k : ∀ (H1 : Heap) (locs1 : List Loc), hH z v (va_up sc 3 x) ar s H1 locs1 → W p l e R s m args below meth c H1 locs1 cells slots Q (F0 m (pc + 3) ls rest)) : W p l e R s m args below meth c H locs cells slots Q (F0 m pc ls (.int x :: .ref (zad z 2) :: rest)) :=
  va_putN (D := zD z) (ci := 7) (ty := .int) (C := RX7) (T := TX7) (N := 7) (v := .int x) C.1.1 C.1.2.1 C.1.2.2.2.2 iX7 tyX7 tyX7_ok nmX7 C.1.2.2.2.1 C.2.1 h.1.1 h.1.2 h.2 2 rfl rfl 1 (by decide) (va_Nw.use rfl (C.2.2.2.1 _ (List.mem_of_getElem? (i := 5) rfl))) (fun _ h9 => h9) rfl (by decide +kernel) rfl rfl (Nat.le_of_ble_eq_true rfl) hd (fun H1 locs1 hP hD hS => k H1 locs1 ⟨⟨hP, hD⟩, hS⟩)
/-- BandMill$Tape.readFrom -/
theorem rg_X9_165 (C : cX z p m c cc nL s args RX9) (h : hH z v sc ar s H locs) (hd : decode cc pc = .ok (.getfield 165, 3)) (k : W p l e R s m args below meth c H locs cells slots Q (F0 m (pc + 3) ls (.int (sc 4) :: rest))) : W p l e R s m args below meth c H locs cells slots Q (F0 m pc ls (.ref (zad z 2) :: rest)) :=
  va_getN (D := zD z) (ci := 7) (C := RX7) (T := TX7) (N := 7) (v := .int (sc 4)) C.1.1 C.1.2.1 C.1.2.2.2.2 iX7 C.1.2.2.2.1 C.2.1 h.1.1 2 rfl rfl 2 (by decide) (va_Nw.use rfl (C.2.2.2.1 _ (List.mem_of_getElem? (i := 6) rfl))) (fun _ h9 => h9) rfl hd k
/-- BandMill$Tape.readFrom := -/
theorem rp_X9_165 {x : Int32} (C : cX z p m c cc nL s args RX9) (h : hH z v sc ar s H locs) (hd : decode cc pc = .ok (.putfield 165, 3)) (k : ∀ (H1 : Heap) (locs1 : List Loc), hH z v (va_up sc 4 x) ar s H1 locs1 → W p l e R s m args below meth c H1 locs1 cells slots Q (F0 m (pc + 3) ls rest)) : W p l e R s m args below meth c H locs cells slots Q (F0 m pc ls (.int x :: .ref (zad z 2) :: rest)) :=
  va_putN (D := zD z) (ci := 7) (ty := .int) (C := RX7) (T := TX7) (N := 7) (v := .int x) C.1.1 C.1.2.1 C.1.2.2.2.2 iX7 tyX7 tyX7_ok nmX7 C.1.2.2.2.1 C.2.1 h.1.1 h.1.2 h.2 2 rfl rfl 2 (by decide) (va_Nw.use rfl (C.2.2.2.1 _ (List.mem_of_getElem? (i := 6) rfl))) (fun _ h9 => h9) rfl (by decide +kernel) rfl rfl (Nat.le_of_ble_eq_true rfl) hd (fun H1 locs1 hP hD hS => k H1 locs1 ⟨⟨hP, hD⟩, hS⟩)
/-- BandMill$Tape.drafted -/
theorem rg_X9_191 (C : cX z p m c cc nL s args RX9) (h : hH z v sc ar s H locs) (hd : decode cc pc = .ok (.getfield 191, 3)) (k : W p l e R s m args below meth c H locs cells slots Q (F0 m (pc + 3) ls (.int (sc 5) :: rest))) : W p l e R s m args below meth c H locs cells slots Q (F0 m pc ls (.ref (zad z 2) :: rest)) :=
  va_getN (D := zD z) (ci := 7) (C := RX7) (T := TX7) (N := 7) (v := .int (sc 5)) C.1.1 C.1.2.1 C.1.2.2.2.2 iX7 C.1.2.2.2.1 C.2.1 h.1.1 2 rfl rfl 3 (by decide) (va_Nw.use rfl (C.2.2.2.1 _ (List.mem_of_getElem? (i := 7) rfl))) (fun _ h9 => h9) rfl hd k
theorem ldA (k : Nat) (hk : isA k = true) {j : Nat} (hj : j < aL k) (hL : aL k < 2 ^ 31) (C : cX z p m c cc nL s args own) (h : hH z v sc ar s H locs) (hd : decode cc pc = .ok (.iaload, 1)) (kk : W p l e R s m args below meth c H locs cells slots Q (F0 m (pc + 1) ls (.int (ar k j) :: rest))) : W p l e R s m args below meth c H locs cells slots Q (F0 m pc ls (.int (nI j) :: .ref (zad z k) :: rest)) := by
  refine va_iald C.1.1 C.1.2.1 C.2.1 h.1.1 k 1 (gW_arr hk) rfl (vp_in_nI hj hL) hd ?_
  rw [nI_clamp (Nat.lt_trans hj hL)]
  exact kk
theorem stA (k : Nat) (hk : isA k = true) {j : Nat} {x : Int32} (hj : j < aL k) (hL : aL k < 2 ^ 31) (C : cX z p m c cc nL s args own) (h : hH z v sc ar s H locs) (hd : decode cc pc = .ok (.iastore, 1)) (kk : ∀ (H1 : Heap) (locs1 : List Loc), hH z v sc (va_up ar k (upd (ar k) j x)) s H1 locs1 → W p l e R s m args below meth c H1 locs1 cells slots Q (F0 m (pc + 1) ls rest)) : W p l e R s m args below meth c H locs cells slots Q (F0 m pc ls (.int x :: .int (nI j) :: .ref (zad z k) :: rest)) := by
  refine va_iast C.1.1 C.1.2.1 C.2.1 h.1.1 h.1.2 h.2 k 1 (gW_arr hk) rfl (vp_in_nI hj hL) hd (fun H1 locs1 hP hD hS => ?_)
  rw [nI_clamp (Nat.lt_trans hj hL), gW_set hk] at hP hD
  exact kk H1 locs1 ⟨⟨hP, hD⟩, hS⟩
theorem ldB {j : Nat} (hj : j < 8000) (C : cX z p m c cc nL s args own) (h : hH z v sc ar s H locs) (hd : decode cc pc = .ok (.baload, 1)) (kk : W p l e R s m args below meth c H locs cells slots Q (F0 m (pc + 1) ls (.int (ar 11 j) :: rest))) : W p l e R s m args below meth c H locs cells slots Q (F0 m pc ls (.int (nI j) :: .ref (zad z 11) :: rest)) := by
  refine va_bald C.1.1 C.1.2.1 C.2.1 h.1.1 11 0 rfl rfl (vp_in_nI hj (by decide)) hd ?_
  rw [nI_clamp (by omega)]
  exact kk
theorem stB {j : Nat} {x : Int32} (hj : j < 8000) (C : cX z p m c cc nL s args own) (h : hH z v sc ar s H locs) (hd : decode cc pc = .ok (.bastore, 1)) (kk : ∀ (H1 : Heap) (locs1 : List Loc), hH z v sc (va_up ar 11 (upd (ar 11) j (vp_nar .byte x))) s H1 locs1 → W p l e R s m args below meth c H1 locs1 cells slots Q (F0 m (pc + 1) ls rest)) : W p l e R s m args below meth c H locs cells slots Q (F0 m pc ls (.int x :: .int (nI j) :: .ref (zad z 11) :: rest)) := by
  refine va_bast C.1.1 C.1.2.1 C.2.1 h.1.1 h.1.2 h.2 11 0 rfl rfl (vp_in_nI hj (by decide)) hd (fun H1 locs1 hP hD hS => ?_)
  rw [nI_clamp (by omega)] at hP hD
  exact kk H1 locs1 ⟨⟨hP, hD⟩, hS⟩
end FLD
end
section
theorem nN_lt {a b : Nat} (ha : a < 2 ^ 31) (hb : b < 2 ^ 31) : nI a < nI b ↔ a < b := nI_ltI ha hb
theorem nN_0 {a : Nat} (ha : a < 2 ^ 31) : nI a = 0 ↔ a = 0 := nI_eq ha (by decide)
theorem nN_max {a b : Nat} (ha : a < 2 ^ 31) (hb : b < 2 ^ 31) : (if nI a < nI b then nI b else nI a) = nI (max a b) := by
  by_cases h : a < b
  · rw [if_pos ((nI_ltI ha hb).mpr h), Nat.max_eq_right (Nat.le_of_lt h)]
  · rw [if_neg (fun q => h ((nI_ltI ha hb).mp q)), Nat.max_eq_left (Nat.not_lt.mp h)]
theorem nN_min {a b : Nat} (ha : a < 2 ^ 31) (hb : b < 2 ^ 31) : (if nI b < nI a then nI b else nI a) = nI (min a b) := by
  by_cases h : b < a
  · rw [if_pos ((nI_ltI hb ha).mpr h), Nat.min_eq_right (Nat.le_of_lt h)]
  · rw [if_neg (fun q => h ((nI_ltI hb ha).mp q)), Nat.min_eq_left (Nat.not_lt.mp h)]
theorem nN_inc (a : Nat) : nI a + Int32.ofInt 1 = nI (a + 1) := nI_1 a
theorem nN_dec (a : Nat) : nI (a + 1) + Int32.ofInt (-1) = nI a := pk_m1 a
section ROWS4
variable {p : Program} {l : Launch} {e : Env} {R : Room} {s : State} {m : MethodId} {args : Array Value} {below : List Frame} {meth : Method} {c : Code} {H : Heap} {locs : List Loc} {cells slots : Nat} {Q : State → Prop}
variable {z : bZ} {v : bV} {sc : Nat → Int32} {ar : Nat → Nat → Int32} {cc : ByteArray} {nL : Nat} {own : String} {pc : Nat} {ls : Array Slot} {rest : List Value} {off : Int} {tgt : Nat} {a b : Nat}
theorem jN_eq (C : cX z p m c cc nL s args own) (ha : a < 2 ^ 31) (hb : b < 2 ^ 31) (hd : decode cc pc = .ok (.if_icmp .eq off, 3)) (ht : (pc : Int) + off = (tgt : Int)) (kt : a = b → W p l e R s m args below meth c H locs cells slots Q (F0 m tgt ls rest)) (kf : ¬ a = b → W p l e R s m args below meth c H locs cells slots Q (F0 m (pc + 3) ls rest)) : W p l e R s m args below meth c H locs cells slots Q (F0 m pc ls (.int (nI b) :: .int (nI a) :: rest)) :=
  lv_icmp_eq C.1.1 C.1.2.1 hd ht (fun q => kt ((nI_eq ha hb).mp q)) (fun q => kf (fun r => q ((nI_eq ha hb).mpr r)))
theorem jN_ne (C : cX z p m c cc nL s args own) (ha : a < 2 ^ 31) (hb : b < 2 ^ 31) (hd : decode cc pc = .ok (.if_icmp .ne off, 3)) (ht : (pc : Int) + off = (tgt : Int)) (kt : ¬ a = b → W p l e R s m args below meth c H locs cells slots Q (F0 m tgt ls rest)) (kf : a = b → W p l e R s m args below meth c H locs cells slots Q (F0 m (pc + 3) ls rest)) : W p l e R s m args below meth c H locs cells slots Q (F0 m pc ls (.int (nI b) :: .int (nI a) :: rest)) :=
  lv_icmp_ne C.1.1 C.1.2.1 hd ht (fun q => kt (fun r => q ((nI_eq ha hb).mpr r))) (fun q => kf ((nI_eq ha hb).mp q))
theorem jN_lt (C : cX z p m c cc nL s args own) (ha : a < 2 ^ 31) (hb : b < 2 ^ 31) (hd : decode cc pc = .ok (.if_icmp .lt off, 3)) (ht : (pc : Int) + off = (tgt : Int)) (kt : a < b → W p l e R s m args below meth c H locs cells slots Q (F0 m tgt ls rest)) (kf : b ≤ a → W p l e R s m args below meth c H locs cells slots Q (F0 m (pc + 3) ls rest)) : W p l e R s m args below meth c H locs cells slots Q (F0 m pc ls (.int (nI b) :: .int (nI a) :: rest)) :=
  lv_icmp_lt C.1.1 C.1.2.1 hd ht (fun q => kt ((nI_ltI ha hb).mp q)) (fun q => kf (Nat.not_lt.mp (fun r => q ((nI_ltI ha hb).mpr r))))
theorem jN_ge (C : cX z p m c cc nL s args own) (ha : a < 2 ^ 31) (hb : b < 2 ^ 31) (hd : decode cc pc = .ok (.if_icmp .ge off, 3)) (ht : (pc : Int) + off = (tgt : Int)) (kt : b ≤ a → W p l e R s m args below meth c H locs cells slots Q (F0 m tgt ls rest)) (kf : a < b → W p l e R s m args below meth c H locs cells slots Q (F0 m (pc + 3) ls rest)) : W p l e R s m args below meth c H locs cells slots Q (F0 m pc ls (.int (nI b) :: .int (nI a) :: rest)) :=
  lv_icmp_ge C.1.1 C.1.2.1 hd ht (fun q => kt ((nI_leI hb ha).mp q)) (fun q => kf (Nat.not_le.mp (fun r => q ((nI_leI hb ha).mpr r))))
theorem jN_gt (C : cX z p m c cc nL s args own) (ha : a < 2 ^ 31) (hb : b < 2 ^ 31) (hd : decode cc pc = .ok (.if_icmp .gt off, 3)) (ht : (pc : Int) + off = (tgt : Int)) (kt : b < a → W p l e R s m args below meth c H locs cells slots Q (F0 m tgt ls rest)) (kf : a ≤ b → W p l e R s m args below meth c H locs cells slots Q (F0 m (pc + 3) ls rest)) : W p l e R s m args below meth c H locs cells slots Q (F0 m pc ls (.int (nI b) :: .int (nI a) :: rest)) :=
  lv_icmp_gt C.1.1 C.1.2.1 hd ht (fun q => kt ((nI_ltI hb ha).mp q)) (fun q => kf (Nat.not_lt.mp (fun r => q ((nI_ltI hb ha).mpr r))))
theorem jN_le (C : cX z p m c cc nL s args own) (ha : a < 2 ^ 31) (hb : b < 2 ^ 31) (hd : decode cc pc = .ok (.if_icmp .le off, 3)) (ht : (pc : Int) + off = (tgt : Int)) (kt : a ≤ b → W p l e R s m args below meth c H locs cells slots Q (F0 m tgt ls rest)) (kf : b < a → W p l e R s m args below meth c H locs cells slots Q (F0 m (pc + 3) ls rest)) : W p l e R s m args below meth c H locs cells slots Q (F0 m pc ls (.int (nI b) :: .int (nI a) :: rest)) :=
  lv_icmp_le C.1.1 C.1.2.1 hd ht (fun q => kt ((nI_leI ha hb).mp q)) (fun q => kf (Nat.not_le.mp (fun r => q ((nI_leI ha hb).mpr r))))
theorem zN_eq (C : cX z p m c cc nL s args own) (ha : a < 2 ^ 31) (hd : decode cc pc = .ok (.ifCond .eq off, 3)) (ht : (pc : Int) + off = (tgt : Int)) (kt : a = 0 → W p l e R s m args below meth c H locs cells slots Q (F0 m tgt ls rest)) (kf : 0 < a → W p l e R s m args below meth c H locs cells slots Q (F0 m (pc + 3) ls rest)) : W p l e R s m args below meth c H locs cells slots Q (F0 m pc ls (.int (nI a) :: rest)) :=
  lv_if_eq C.1.1 C.1.2.1 hd ht (fun q => kt ((nN_0 ha).mp q)) (fun q => kf (Nat.pos_of_ne_zero (fun r => q ((nN_0 ha).mpr r))))
theorem zN_ne (C : cX z p m c cc nL s args own) (ha : a < 2 ^ 31) (hd : decode cc pc = .ok (.ifCond .ne off, 3)) (ht : (pc : Int) + off = (tgt : Int)) (kt : 0 < a → W p l e R s m args below meth c H locs cells slots Q (F0 m tgt ls rest)) (kf : a = 0 → W p l e R s m args below meth c H locs cells slots Q (F0 m (pc + 3) ls rest)) : W p l e R s m args below meth c H locs cells slots Q (F0 m pc ls (.int (nI a) :: rest)) :=
  lv_if_ne C.1.1 C.1.2.1 hd ht (fun q => kt (Nat.pos_of_ne_zero (fun r => q ((nN_0 ha).mpr r)))) (fun q => kf ((nN_0 ha).mp q))
theorem zN_lt (C : cX z p m c cc nL s args own) (ha : a < 2 ^ 31) (hd : decode cc pc = .ok (.ifCond .lt off, 3)) (ht : (pc : Int) + off = (tgt : Int)) (kf : W p l e R s m args below meth c H locs cells slots Q (F0 m (pc + 3) ls rest)) : W p l e R s m args below meth c H locs cells slots Q (F0 m pc ls (.int (nI a) :: rest)) :=
  lv_if_lt C.1.1 C.1.2.1 hd ht (fun q => absurd q (nI_pos ha)) (fun _ => kf)
theorem zN_ge (C : cX z p m c cc nL s args own) (ha : a < 2 ^ 31) (hd : decode cc pc = .ok (.ifCond .ge off, 3)) (ht : (pc : Int) + off = (tgt : Int)) (kt : W p l e R s m args below meth c H locs cells slots Q (F0 m tgt ls rest)) : W p l e R s m args below meth c H locs cells slots Q (F0 m pc ls (.int (nI a) :: rest)) :=
  lv_if_ge C.1.1 C.1.2.1 hd ht (fun _ => kt) (fun q => absurd (nI_pos' ha) q)
theorem zN_gt (C : cX z p m c cc nL s args own) (ha : a < 2 ^ 31) (hd : decode cc pc = .ok (.ifCond .gt off, 3)) (ht : (pc : Int) + off = (tgt : Int)) (kt : 0 < a → W p l e R s m args below meth c H locs cells slots Q (F0 m tgt ls rest)) (kf : a = 0 → W p l e R s m args below meth c H locs cells slots Q (F0 m (pc + 3) ls rest)) : W p l e R s m args below meth c H locs cells slots Q (F0 m pc ls (.int (nI a) :: rest)) :=
  lv_if_gt C.1.1 C.1.2.1 hd ht (fun q => kt ((nI_ltI (by decide) ha).mp (show nI 0 < nI a from q))) (fun q => kf (Nat.eq_zero_of_not_pos (fun r => q (show nI 0 < nI a from (nI_ltI (by decide) ha).mpr r))))
theorem zN_le (C : cX z p m c cc nL s args own) (ha : a < 2 ^ 31) (hd : decode cc pc = .ok (.ifCond .le off, 3)) (ht : (pc : Int) + off = (tgt : Int)) (kt : a = 0 → W p l e R s m args below meth c H locs cells slots Q (F0 m tgt ls rest)) (kf : 0 < a → W p l e R s m args below meth c H locs cells slots Q (F0 m (pc + 3) ls rest)) : W p l e R s m args below meth c H locs cells slots Q (F0 m pc ls (.int (nI a) :: rest)) :=
  lv_if_le C.1.1 C.1.2.1 hd ht (fun q => kt (Nat.eq_zero_of_not_pos (fun r => absurd q (nI_nle r ha)))) (fun q => kf (Nat.pos_of_ne_zero (fun r => q (by rw [r]; decide))))
theorem mmax {ix : Nat} {x y : Int32} (C : cX z p m c cc nL s args own) (hl : ls.size = nL) (hk : Cond.methodLink own ix Lib.Math.max.name ∈ uW) (hfr : 1 ≤ R.frames) (hlo : (rest.map fun v => v.category).sum + 13 ≤ R.locals) (hc : cells ≤ R.cells) (hs : slots ≤ R.slots) (hd : decode cc pc = .ok (.invokestatic ix, 3)) (kk : W p l e R s m args below meth c H locs cells slots Q (F0 m (pc + 3) ls (.int (if x < y then y else x) :: rest))) : W p l e R s m args below meth c H locs cells slots Q (F0 m pc ls (.int y :: .int x :: rest)) :=
  va_mmax C.1.1 C.1.2.1 (C.1.2.2.1.trans hl.symm) C.1.2.2.2.1 (C.1.2.2.2.2 _ hk) (C.1.2.2.2.2 _ (uW_of (by decide +kernel) rfl)) (C.1.2.2.2.2 _ (uW_of (by decide +kernel) rfl)) (C.1.2.2.2.2 _ (uW_of (by decide +kernel) rfl)) hfr hlo hc hs hd kk
theorem mmin {ix : Nat} {x y : Int32} (C : cX z p m c cc nL s args own) (hl : ls.size = nL) (hk : Cond.methodLink own ix Lib.Math.min.name ∈ uW) (hfr : 1 ≤ R.frames) (hlo : (rest.map fun v => v.category).sum + 13 ≤ R.locals) (hc : cells ≤ R.cells) (hs : slots ≤ R.slots) (hd : decode cc pc = .ok (.invokestatic ix, 3)) (kk : W p l e R s m args below meth c H locs cells slots Q (F0 m (pc + 3) ls (.int (if y < x then y else x) :: rest))) : W p l e R s m args below meth c H locs cells slots Q (F0 m pc ls (.int y :: .int x :: rest)) :=
  va_mmin C.1.1 C.1.2.1 (C.1.2.2.1.trans hl.symm) C.1.2.2.2.1 (C.1.2.2.2.2 _ hk) (C.1.2.2.2.2 _ (uW_of (by decide +kernel) rfl)) (C.1.2.2.2.2 _ (uW_of (by decide +kernel) rfl)) (C.1.2.2.2.2 _ (uW_of (by decide +kernel) rfl)) hfr hlo hc hs hd kk
theorem rcv (k : Nat) {ci a : Nat} {fs : List Value} {q : vw_C} (C : cX z p m c cc nL s args own) (h : hH z v sc ar s H locs) (he : (gW z v sc ar)[k]? = some (a, .inr (ci, fs))) (hc : vwCl[ci]? = some q) : ∃ cell : Cell, H[a]? = some cell ∧ cell.vm.isStatics = false ∧ s.vm.findClass q.1 = some cell.cls := va_recv C.2.1 h.1.1 hc he
theorem r_BM (C : cX z p m c cc nL s args own) (h : hH z v sc ar s H locs) : ∃ cell : Cell, H[zad z 0]? = some cell ∧ cell.vm.isStatics = false ∧ s.vm.findClass RX9 = some cell.cls := rcv 0 C h rfl rfl
theorem r_Tape (C : cX z p m c cc nL s args own) (h : hH z v sc ar s H locs) : ∃ cell : Cell, H[zad z 2]? = some cell ∧ cell.vm.isStatics = false ∧ s.vm.findClass RX7 = some cell.cls := rcv 2 C h rfl rfl
theorem r_Census (C : cX z p m c cc nL s args own) (h : hH z v sc ar s H locs) : ∃ cell : Cell, H[zad z 3]? = some cell ∧ cell.vm.isStatics = false ∧ s.vm.findClass RX0 = some cell.cls := rcv 3 C h rfl rfl
theorem r_Search (C : cX z p m c cc nL s args own) (h : hH z v sc ar s H locs) : ∃ cell : Cell, H[zad z 4]? = some cell ∧ cell.vm.isStatics = false ∧ s.vm.findClass RX6 = some cell.cls := rcv 4 C h rfl rfl
theorem r_Ref (C : cX z p m c cc nL s args own) (h : hH z v sc ar s H locs) : ∃ cell : Cell, H[zad z 27]? = some cell ∧ cell.vm.isStatics = false ∧ s.vm.findClass RX10 = some cell.cls := rcv 27 C h rfl rfl
/-- a loop with 1 things that change -/
theorem lpW1 {A1 : Type} {st : List Value} (I : A1 → Heap → List Loc → Array Slot → Prop) (μ : A1 → Nat) (body : ∀ (a1 : A1), (∀ (b1 : A1), μ b1 < μ a1 → ∀ (H : Heap) (locs : List Loc) (ls : Array Slot), I b1 H locs ls → W p l e R s m args below meth c H locs cells slots Q (F0 m pc ls st)) → ∀ (H : Heap) (locs : List Loc) (ls : Array Slot), I a1 H locs ls → W p l e R s m args below meth c H locs cells slots Q (F0 m pc ls st)) (a1 : A1) (h : I a1 H locs ls) : W p l e R s m args below meth c H locs cells slots Q (F0 m pc ls st) := by
  suffices key : ∀ (n : Nat) (a1 : A1) (H : Heap) (locs : List Loc) (ls : Array Slot), μ a1 < n → I a1 H locs ls → W p l e R s m args below meth c H locs cells slots Q (F0 m pc ls st) from key (μ a1 + 1) a1 H locs ls (Nat.lt_succ_self _) h
  intro n
  induction n with
  | zero => intro a1 H locs ls hm; exact absurd hm (Nat.not_lt_zero _)
  | succ n ih => intro a1 H locs ls hm hI; exact body a1 (fun b1 hb H locs ls hI => ih b1 H locs ls (by omega) hI) H locs ls hI
/-- a loop with 2 things that change -/
theorem lpW2 {A1 A2 : Type} {st : List Value} (I : A1 → A2 → Heap → List Loc → Array Slot → Prop) (μ : A1 → A2 → Nat) (body : ∀ (a1 : A1) (a2 : A2), (∀ (b1 : A1) (b2 : A2), μ b1 b2 < μ a1 a2 → ∀ (H : Heap) (locs : List Loc) (ls : Array Slot), I b1 b2 H locs ls → W p l e R s m args below meth c H locs cells slots Q (F0 m pc ls st)) → ∀ (H : Heap) (locs : List Loc) (ls : Array Slot), I a1 a2 H locs ls → W p l e R s m args below meth c H locs cells slots Q (F0 m pc ls st)) (a1 : A1) (a2 : A2) (h : I a1 a2 H locs ls) : W p l e R s m args below meth c H locs cells slots Q (F0 m pc ls st) := by
  suffices key : ∀ (n : Nat) (a1 : A1) (a2 : A2) (H : Heap) (locs : List Loc) (ls : Array Slot), μ a1 a2 < n → I a1 a2 H locs ls → W p l e R s m args below meth c H locs cells slots Q (F0 m pc ls st) from key (μ a1 a2 + 1) a1 a2 H locs ls (Nat.lt_succ_self _) h
  intro n
  induction n with
  | zero => intro a1 a2 H locs ls hm; exact absurd hm (Nat.not_lt_zero _)
  | succ n ih => intro a1 a2 H locs ls hm hI; exact body a1 a2 (fun b1 b2 hb H locs ls hI => ih b1 b2 H locs ls (by omega) hI) H locs ls hI
/-- a loop with 3 things that change -/
theorem lpW3 {A1 A2 A3 : Type} {st : List Value} (I : A1 → A2 → A3 → Heap → List Loc → Array Slot → Prop) (μ : A1 → A2 → A3 → Nat) (body : ∀ (a1 : A1) (a2 : A2) (a3 : A3), (∀ (b1 : A1) (b2 : A2) (b3 : A3), μ b1 b2 b3 < μ a1 a2 a3 → ∀ (H : Heap) (locs : List Loc) (ls : Array Slot), I b1 b2 b3 H locs ls → W p l e R s m args below meth c H locs cells slots Q (F0 m pc ls st)) → ∀ (H : Heap) (locs : List Loc) (ls : Array Slot), I a1 a2 a3 H locs ls → W p l e R s m args below meth c H locs cells slots Q (F0 m pc ls st)) (a1 : A1) (a2 : A2) (a3 : A3) (h : I a1 a2 a3 H locs ls) : W p l e R s m args below meth c H locs cells slots Q (F0 m pc ls st) := by
  suffices key : ∀ (n : Nat) (a1 : A1) (a2 : A2) (a3 : A3) (H : Heap) (locs : List Loc) (ls : Array Slot), μ a1 a2 a3 < n → I a1 a2 a3 H locs ls → W p l e R s m args below meth c H locs cells slots Q (F0 m pc ls st) from key (μ a1 a2 a3 + 1) a1 a2 a3 H locs ls (Nat.lt_succ_self _) h
  intro n
  induction n with
  | zero => intro a1 a2 a3 H locs ls hm; exact absurd hm (Nat.not_lt_zero _)
  | succ n ih => intro a1 a2 a3 H locs ls hm hI; exact body a1 a2 a3 (fun b1 b2 b3 hb H locs ls hI => ih b1 b2 b3 H locs ls (by omega) hI) H locs ls hI
/-- a loop with 4 things that change -/
theorem lpW4 {A1 A2 A3 A4 : Type} {st : List Value} (I : A1 → A2 → A3 → A4 → Heap → List Loc → Array Slot → Prop) (μ : A1 → A2 → A3 → A4 → Nat) (body : ∀ (a1 : A1) (a2 : A2) (a3 : A3) (a4 : A4), (∀ (b1 : A1) (b2 : A2) (b3 : A3) (b4 : A4), μ b1 b2 b3 b4 < μ a1 a2 a3 a4 → ∀ (H : Heap) (locs : List Loc) (ls : Array Slot), I b1 b2 b3 b4 H locs ls → W p l e R s m args below meth c H locs cells slots Q (F0 m pc ls st)) → ∀ (H : Heap) (locs : List Loc) (ls : Array Slot), I a1 a2 a3 a4 H locs ls → W p l e R s m args below meth c H locs cells slots Q (F0 m pc ls st)) (a1 : A1) (a2 : A2) (a3 : A3) (a4 : A4) (h : I a1 a2 a3 a4 H locs ls) : W p l e R s m args below meth c H locs cells slots Q (F0 m pc ls st) := by
  suffices key : ∀ (n : Nat) (a1 : A1) (a2 : A2) (a3 : A3) (a4 : A4) (H : Heap) (locs : List Loc) (ls : Array Slot), μ a1 a2 a3 a4 < n → I a1 a2 a3 a4 H locs ls → W p l e R s m args below meth c H locs cells slots Q (F0 m pc ls st) from key (μ a1 a2 a3 a4 + 1) a1 a2 a3 a4 H locs ls (Nat.lt_succ_self _) h
  intro n
  induction n with
  | zero => intro a1 a2 a3 a4 H locs ls hm; exact absurd hm (Nat.not_lt_zero _)
  | succ n ih => intro a1 a2 a3 a4 H locs ls hm hI; exact body a1 a2 a3 a4 (fun b1 b2 b3 b4 hb H locs ls hI => ih b1 b2 b3 b4 H locs ls (by omega) hI) H locs ls hI
/-- a loop with 5 things that change -/
theorem lpW5 {A1 A2 A3 A4 A5 : Type} {st : List Value} (I : A1 → A2 → A3 → A4 → A5 → Heap → List Loc → Array Slot → Prop) (μ : A1 → A2 → A3 → A4 → A5 → Nat) (body : ∀ (a1 : A1) (a2 : A2) (a3 : A3) (a4 : A4) (a5 : A5), (∀ (b1 : A1) (b2 : A2) (b3 : A3) (b4 : A4) (b5 : A5), μ b1 b2 b3 b4 b5 < μ a1 a2 a3 a4 a5 → ∀ (H : Heap) (locs : List Loc) (ls : Array Slot), I b1 b2 b3 b4 b5 H locs ls → W p l e R s m args below meth c H locs cells slots Q (F0 m pc ls st)) → ∀ (H : Heap) (locs : List Loc) (ls : Array Slot), I a1 a2 a3 a4 a5 H locs ls → W p l e R s m args below meth c H locs cells slots Q (F0 m pc ls st)) (a1 : A1) (a2 : A2) (a3 : A3) (a4 : A4) (a5 : A5) (h : I a1 a2 a3 a4 a5 H locs ls) : W p l e R s m args below meth c H locs cells slots Q (F0 m pc ls st) := by
  suffices key : ∀ (n : Nat) (a1 : A1) (a2 : A2) (a3 : A3) (a4 : A4) (a5 : A5) (H : Heap) (locs : List Loc) (ls : Array Slot), μ a1 a2 a3 a4 a5 < n → I a1 a2 a3 a4 a5 H locs ls → W p l e R s m args below meth c H locs cells slots Q (F0 m pc ls st) from key (μ a1 a2 a3 a4 a5 + 1) a1 a2 a3 a4 a5 H locs ls (Nat.lt_succ_self _) h
  intro n
  induction n with
  | zero => intro a1 a2 a3 a4 a5 H locs ls hm; exact absurd hm (Nat.not_lt_zero _)
  | succ n ih => intro a1 a2 a3 a4 a5 H locs ls hm hI; exact body a1 a2 a3 a4 a5 (fun b1 b2 b3 b4 b5 hb H locs ls hI => ih b1 b2 b3 b4 b5 H locs ls (by omega) hI) H locs ls hI
/-- a loop with 6 things that change -/
theorem lpW6 {A1 A2 A3 A4 A5 A6 : Type} {st : List Value} (I : A1 → A2 → A3 → A4 → A5 → A6 → Heap → List Loc → Array Slot → Prop) (μ : A1 → A2 → A3 → A4 → A5 → A6 → Nat) (body : ∀ (a1 : A1) (a2 : A2) (a3 : A3) (a4 : A4) (a5 : A5) (a6 : A6), (∀ (b1 : A1) (b2 : A2) (b3 : A3) (b4 : A4) (b5 : A5) (b6 : A6), μ b1 b2 b3 b4 b5 b6 < μ a1 a2 a3 a4 a5 a6 → ∀ (H : Heap) (locs : List Loc) (ls : Array Slot), I b1 b2 b3 b4 b5 b6 H locs ls → W p l e R s m args below meth c H locs cells slots Q (F0 m pc ls st)) → ∀ (H : Heap) (locs : List Loc) (ls : Array Slot), I a1 a2 a3 a4 a5 a6 H locs ls → W p l e R s m args below meth c H locs cells slots Q (F0 m pc ls st)) (a1 : A1) (a2 : A2) (a3 : A3) (a4 : A4) (a5 : A5) (a6 : A6) (h : I a1 a2 a3 a4 a5 a6 H locs ls) : W p l e R s m args below meth c H locs cells slots Q (F0 m pc ls st) := by
  suffices key : ∀ (n : Nat) (a1 : A1) (a2 : A2) (a3 : A3) (a4 : A4) (a5 : A5) (a6 : A6) (H : Heap) (locs : List Loc) (ls : Array Slot), μ a1 a2 a3 a4 a5 a6 < n → I a1 a2 a3 a4 a5 a6 H locs ls → W p l e R s m args below meth c H locs cells slots Q (F0 m pc ls st) from key (μ a1 a2 a3 a4 a5 a6 + 1) a1 a2 a3 a4 a5 a6 H locs ls (Nat.lt_succ_self _) h
  intro n
  induction n with
  | zero => intro a1 a2 a3 a4 a5 a6 H locs ls hm; exact absurd hm (Nat.not_lt_zero _)
  | succ n ih => intro a1 a2 a3 a4 a5 a6 H locs ls hm hI; exact body a1 a2 a3 a4 a5 a6 (fun b1 b2 b3 b4 b5 b6 hb H locs ls hI => ih b1 b2 b3 b4 b5 b6 H locs ls (by omega) hI) H locs ls hI
/-- a loop with 7 things that change -/
theorem lpW7 {A1 A2 A3 A4 A5 A6 A7 : Type} {st : List Value} (I : A1 → A2 → A3 → A4 → A5 → A6 → A7 → Heap → List Loc → Array Slot → Prop) (μ : A1 → A2 → A3 → A4 → A5 → A6 → A7 → Nat) (body : ∀ (a1 : A1) (a2 : A2) (a3 : A3) (a4 : A4) (a5 : A5) (a6 : A6) (a7 : A7), (∀ (b1 : A1) (b2 : A2) (b3 : A3) (b4 : A4) (b5 : A5) (b6 : A6) (b7 : A7), μ b1 b2 b3 b4 b5 b6 b7 < μ a1 a2 a3 a4 a5 a6 a7 → ∀ (H : Heap) (locs : List Loc) (ls : Array Slot), I b1 b2 b3 b4 b5 b6 b7 H locs ls → W p l e R s m args below meth c H locs cells slots Q (F0 m pc ls st)) → ∀ (H : Heap) (locs : List Loc) (ls : Array Slot), I a1 a2 a3 a4 a5 a6 a7 H locs ls → W p l e R s m args below meth c H locs cells slots Q (F0 m pc ls st)) (a1 : A1) (a2 : A2) (a3 : A3) (a4 : A4) (a5 : A5) (a6 : A6) (a7 : A7) (h : I a1 a2 a3 a4 a5 a6 a7 H locs ls) : W p l e R s m args below meth c H locs cells slots Q (F0 m pc ls st) := by
  suffices key : ∀ (n : Nat) (a1 : A1) (a2 : A2) (a3 : A3) (a4 : A4) (a5 : A5) (a6 : A6) (a7 : A7) (H : Heap) (locs : List Loc) (ls : Array Slot), μ a1 a2 a3 a4 a5 a6 a7 < n → I a1 a2 a3 a4 a5 a6 a7 H locs ls → W p l e R s m args below meth c H locs cells slots Q (F0 m pc ls st) from key (μ a1 a2 a3 a4 a5 a6 a7 + 1) a1 a2 a3 a4 a5 a6 a7 H locs ls (Nat.lt_succ_self _) h
  intro n
  induction n with
  | zero => intro a1 a2 a3 a4 a5 a6 a7 H locs ls hm; exact absurd hm (Nat.not_lt_zero _)
  | succ n ih => intro a1 a2 a3 a4 a5 a6 a7 H locs ls hm hI; exact body a1 a2 a3 a4 a5 a6 a7 (fun b1 b2 b3 b4 b5 b6 b7 hb H locs ls hI => ih b1 b2 b3 b4 b5 b6 b7 H locs ls (by omega) hI) H locs ls hI
/-- a loop with 8 things that change -/
theorem lpW8 {A1 A2 A3 A4 A5 A6 A7 A8 : Type} {st : List Value} (I : A1 → A2 → A3 → A4 → A5 → A6 → A7 → A8 → Heap → List Loc → Array Slot → Prop) (μ : A1 → A2 → A3 → A4 → A5 → A6 → A7 → A8 → Nat) (body : ∀ (a1 : A1) (a2 : A2) (a3 : A3) (a4 : A4) (a5 : A5) (a6 : A6) (a7 : A7) (a8 : A8), (∀ (b1 : A1) (b2 : A2) (b3 : A3) (b4 : A4) (b5 : A5) (b6 : A6) (b7 : A7) (b8 : A8), μ b1 b2 b3 b4 b5 b6 b7 b8 < μ a1 a2 a3 a4 a5 a6 a7 a8 → ∀ (H : Heap) (locs : List Loc) (ls : Array Slot), I b1 b2 b3 b4 b5 b6 b7 b8 H locs ls → W p l e R s m args below meth c H locs cells slots Q (F0 m pc ls st)) → ∀ (H : Heap) (locs : List Loc) (ls : Array Slot), I a1 a2 a3 a4 a5 a6 a7 a8 H locs ls → W p l e R s m args below meth c H locs cells slots Q (F0 m pc ls st)) (a1 : A1) (a2 : A2) (a3 : A3) (a4 : A4) (a5 : A5) (a6 : A6) (a7 : A7) (a8 : A8) (h : I a1 a2 a3 a4 a5 a6 a7 a8 H locs ls) : W p l e R s m args below meth c H locs cells slots Q (F0 m pc ls st) := by
  suffices key : ∀ (n : Nat) (a1 : A1) (a2 : A2) (a3 : A3) (a4 : A4) (a5 : A5) (a6 : A6) (a7 : A7) (a8 : A8) (H : Heap) (locs : List Loc) (ls : Array Slot), μ a1 a2 a3 a4 a5 a6 a7 a8 < n → I a1 a2 a3 a4 a5 a6 a7 a8 H locs ls → W p l e R s m args below meth c H locs cells slots Q (F0 m pc ls st) from key (μ a1 a2 a3 a4 a5 a6 a7 a8 + 1) a1 a2 a3 a4 a5 a6 a7 a8 H locs ls (Nat.lt_succ_self _) h
  intro n
  induction n with
  | zero => intro a1 a2 a3 a4 a5 a6 a7 a8 H locs ls hm; exact absurd hm (Nat.not_lt_zero _)
  | succ n ih => intro a1 a2 a3 a4 a5 a6 a7 a8 H locs ls hm hI; exact body a1 a2 a3 a4 a5 a6 a7 a8 (fun b1 b2 b3 b4 b5 b6 b7 b8 hb H locs ls hI => ih b1 b2 b3 b4 b5 b6 b7 b8 H locs ls (by omega) hI) H locs ls hI
/-- a loop with 9 things that change -/
theorem lpW9 {A1 A2 A3 A4 A5 A6 A7 A8 A9 : Type} {st : List Value} (I : A1 → A2 → A3 → A4 → A5 → A6 → A7 → A8 → A9 → Heap → List Loc → Array Slot → Prop) (μ : A1 → A2 → A3 → A4 → A5 → A6 → A7 → A8 → A9 → Nat) (body : ∀ (a1 : A1) (a2 : A2) (a3 : A3) (a4 : A4) (a5 : A5) (a6 : A6) (a7 : A7) (a8 : A8) (a9 : A9), (∀ (b1 : A1) (b2 : A2) (b3 : A3) (b4 : A4) (b5 : A5) (b6 : A6) (b7 : A7) (b8 : A8) (b9 : A9), μ b1 b2 b3 b4 b5 b6 b7 b8 b9 < μ a1 a2 a3 a4 a5 a6 a7 a8 a9 → ∀ (H : Heap) (locs : List Loc) (ls : Array Slot), I b1 b2 b3 b4 b5 b6 b7 b8 b9 H locs ls → W p l e R s m args below meth c H locs cells slots Q (F0 m pc ls st)) → ∀ (H : Heap) (locs : List Loc) (ls : Array Slot), I a1 a2 a3 a4 a5 a6 a7 a8 a9 H locs ls → W p l e R s m args below meth c H locs cells slots Q (F0 m pc ls st)) (a1 : A1) (a2 : A2) (a3 : A3) (a4 : A4) (a5 : A5) (a6 : A6) (a7 : A7) (a8 : A8) (a9 : A9) (h : I a1 a2 a3 a4 a5 a6 a7 a8 a9 H locs ls) : W p l e R s m args below meth c H locs cells slots Q (F0 m pc ls st) := by
  suffices key : ∀ (n : Nat) (a1 : A1) (a2 : A2) (a3 : A3) (a4 : A4) (a5 : A5) (a6 : A6) (a7 : A7) (a8 : A8) (a9 : A9) (H : Heap) (locs : List Loc) (ls : Array Slot), μ a1 a2 a3 a4 a5 a6 a7 a8 a9 < n → I a1 a2 a3 a4 a5 a6 a7 a8 a9 H locs ls → W p l e R s m args below meth c H locs cells slots Q (F0 m pc ls st) from key (μ a1 a2 a3 a4 a5 a6 a7 a8 a9 + 1) a1 a2 a3 a4 a5 a6 a7 a8 a9 H locs ls (Nat.lt_succ_self _) h
  intro n
  induction n with
  | zero => intro a1 a2 a3 a4 a5 a6 a7 a8 a9 H locs ls hm; exact absurd hm (Nat.not_lt_zero _)
  | succ n ih => intro a1 a2 a3 a4 a5 a6 a7 a8 a9 H locs ls hm hI; exact body a1 a2 a3 a4 a5 a6 a7 a8 a9 (fun b1 b2 b3 b4 b5 b6 b7 b8 b9 hb H locs ls hI => ih b1 b2 b3 b4 b5 b6 b7 b8 b9 H locs ls (by omega) hI) H locs ls hI
end ROWS4
end
section
/-- byte i of the first n -/
def tpAt (by_ : Nat → Int32) (n : Nat) (i : Int32) : Int32 := if i < 0 ∨ n ≤ i.toNatClampNeg then -1 else by_ i.toNatClampNeg &&& 255
theorem tpAt_nI {by_ : Nat → Int32} {n j : Nat} (hj : j < 2 ^ 31) : tpAt by_ n (nI j) = if j < n then by_ j &&& 255 else -1 := by
  unfold tpAt
  rw [nI_clamp hj]
  by_cases h : j < n
  · rw [if_neg (by intro q; rcases q with q | q; exact nI_pos hj q; omega), if_pos h]
  · rw [if_pos (Or.inr (by omega)), if_neg h]
theorem nZ {x : Int32} (h : x = 0 ∨ x = 1) : narrow .boolean (.int x) = .int x := by
  rcases h with rfl | rfl <;> rfl
theorem uEq {z : bZ} {v v' : bV} {sc sc' : Nat → Int32} {ar ar' : Nat → Nat → Int32} {s : State} {H : Heap} {locs : List Loc} (hu : ((v', sc', ar') : bS) = (v, sc, ar)) (h : hH z v' sc' ar' s H locs) : hH z v sc ar s H locs := by
  cases hu; exact h
theorem lN_ne0 {n : Nat} (h0 : 0 < n) (h : n < 2 ^ 63) : ¬ lN n = 0 := fun q => by
  have := (pk_lEQ h (by decide : 0 < 2 ^ 63)).mp q
  omega
theorem and255_ne (x : Int32) : ¬ x &&& 255 = -1 := by
  obtain ⟨j, hj, e⟩ := pk_andE x (m := 255) 8 (by decide)
  rw [e]
  intro q
  have h1 := congrArg Int32.toInt q
  rw [nI_toInt (by omega)] at h1
  have : (-1 : Int32).toInt = -1 := by decide
  omega
set_option maxHeartbeats 4000000 in
set_option maxRecDepth 100000 in
/-- Tape.byteAt -/
theorem k_byteAt (l : Launch) (z : bZ) (v : bV) (sc : Nat → Int32) (ar : Nat → Nat → Int32) (n : Nat) (i : Int32) (hn : sc 3 = nI n) (hn8 : n ≤ 8000) : Met l yX7_byteAt (Cond.code yX7_byteAt cX7_byteAt 2 (some .int) :: uW) { frames := 0, cells := 0, slots := 0, locals := 0 } (pC z v sc ar [.ref (zad z 2), .int (i)]) (qI z (fun r u => r = tpAt (ar 11) n i ∧ u = (v, sc, ar))) 0 0 (zA z) := by
  refine eM (by decide) (Nat.le_of_ble_eq_true rfl) ?_
  intro pP eE s mM below meth cC ls C hr hlk h hl
  have hx := C.1.1
  have hb := C.1.2.1
  have hl : lv_has ls 2 [(0, .ref (zad z 2)), (1, .int (i))] := hl
  refine lv_iload_n hx hb dX7_byteAt_0 rfl (lv_at hl 1 rfl) ?_
  refine lv_if_lt (tgt := 25) hx hb dX7_byteAt_1 (by decide) (fun c_1 => ?_) (fun c_1 => ?_)
  · skip
    have hi : tpAt (ar 11) n i = -1 := if_pos (Or.inl c_1)
    refine lv_iconst (v := (-1)) hx hb dX7_byteAt_25 (by decide) ?_
    exact rI C hr hlk h dX7_byteAt_26 (Nat.le_of_ble_eq_true rfl) (Nat.le_of_ble_eq_true rfl) (⟨hi.symm, rfl⟩)
  · skip
    refine lv_iload_n hx hb dX7_byteAt_4 rfl (lv_at hl 1 rfl) ?_
    refine lv_aload_n hx hb dX7_byteAt_5 rfl (lv_at hl 0 rfl) ?_
    refine rg_X7_15 C h dX7_byteAt_6 ?_
    refine tI (y := nI (n)) hn ?_
    refine lv_icmp_ge (tgt := 25) hx hb dX7_byteAt_9 (by decide) (fun c_9 => ?_) (fun c_9 => ?_)
    · skip
      have hi : tpAt (ar 11) n i = -1 := by
        obtain ⟨j, hj, rfl⟩ := nI_of c_1
        rw [tpAt_nI hj, if_neg (by have := (nI_leI (by omega) hj).mp c_9; omega)]
      refine lv_iconst (v := (-1)) hx hb dX7_byteAt_25 (by decide) ?_
      exact rI C hr hlk h dX7_byteAt_26 (Nat.le_of_ble_eq_true rfl) (Nat.le_of_ble_eq_true rfl) (⟨hi.symm, rfl⟩)
    · skip
      obtain ⟨j, hj, rfl⟩ : ∃ j : Nat, j < n ∧ i = nI j := by
        obtain ⟨j, hj, rfl⟩ := nI_of c_1
        exact ⟨j, by by_cases q : j < n; exact q; exact absurd ((nI_leI (by omega) hj).mpr (by omega)) c_9, rfl⟩
      refine lv_aload_n hx hb dX7_byteAt_12 rfl (lv_at hl 0 rfl) ?_
      refine rg_X7_9 C h dX7_byteAt_13 ?_
      refine lv_iload_n hx hb dX7_byteAt_16 rfl (lv_at hl 1 rfl) ?_
      refine ldB (j := j) (by omega) C h dX7_byteAt_17 ?_
      refine tI (y := (ar 11) (j)) rfl ?_
      refine lv_sipush (v := nI (255)) hx hb dX7_byteAt_18 (by decide) ?_
      refine lv_iand hx hb dX7_byteAt_21 ?_
      refine lv_goto (tgt := 26) hx hb dX7_byteAt_22 (by decide) ?_
      exact rI C hr hlk h dX7_byteAt_26 (Nat.le_of_ble_eq_true rfl) (Nat.le_of_ble_eq_true rfl) (⟨by rw [tpAt_nI (by omega), if_pos hj]; rfl, rfl⟩)
set_option maxHeartbeats 4000000 in
set_option maxRecDepth 100000 in
/-- Tape.startDraft -/
theorem k_startDraft (l : Launch) (z : bZ) (v : bV) (sc : Nat → Int32) (ar : Nat → Nat → Int32)   : Met l yX7_startDraft (Cond.code yX7_startDraft cX7_startDraft 1 none :: uW) { frames := 0, cells := 0, slots := 0, locals := 0 } (pC z v sc ar [.ref (zad z 2)]) (qV z (fun u => u = (v, va_up sc 5 (nI 0), ar))) 0 0 (zA z) := by
  refine eM (by decide) (Nat.le_of_ble_eq_true rfl) ?_
  intro pP eE s mM below meth cC ls C hr hlk h hl
  have hx := C.1.1
  have hb := C.1.2.1
  have hl : lv_has ls 1 [(0, .ref (zad z 2))] := hl
  refine lv_aload_n hx hb dX7_startDraft_0 rfl (lv_at hl 0 rfl) ?_
  refine lv_iconst (v := nI (0)) hx hb dX7_startDraft_1 (by decide) ?_
  refine rp_X7_22 C h dX7_startDraft_2 (fun H locs h => ?_)
  exact rV C hr hlk h dX7_startDraft_5 (Nat.le_of_ble_eq_true rfl) (Nat.le_of_ble_eq_true rfl) (rfl)
set_option maxHeartbeats 4000000 in
set_option maxRecDepth 100000 in
/-- Tape.draft -/
theorem k_draft (l : Launch) (z : bZ) (v : bV) (sc : Nat → Int32) (ar : Nat → Nat → Int32) (n d : Nat) (x : Int32) (hn : sc 3 = nI n) (hn8 : n ≤ 8000) (hd : sc 5 = nI d) (hd9 : d < 2 ^ 30) : Met l yX7_draft (Cond.code yX7_draft cX7_draft 3 none :: uW) { frames := 0, cells := 0, slots := 0, locals := 0 } (pC z v sc ar [.ref (zad z 2), .int (x)]) (qV z (fun u => u = (v, va_up sc 5 (nI (d + 1)), if n + d < 8000 then va_up ar 11 (upd (ar 11) (n + d) x.toInt8.toInt32) else ar))) 0 0 (zA z) := by
  refine eM (by decide) (Nat.le_of_ble_eq_true rfl) ?_
  intro pP eE s mM below meth cC ls C hr hlk h hl
  have hx := C.1.1
  have hb := C.1.2.1
  have hl : lv_has ls 3 [(0, .ref (zad z 2)), (1, .int (x))] := hl
  refine lv_aload_n hx hb dX7_draft_0 rfl (lv_at hl 0 rfl) ?_
  refine rg_X7_15 C h dX7_draft_1 ?_
  refine tI (y := nI (n)) hn ?_
  refine lv_aload_n hx hb dX7_draft_4 rfl (lv_at hl 0 rfl) ?_
  refine rg_X7_22 C h dX7_draft_5 ?_
  refine tI (y := nI (d)) hd ?_
  refine lv_iadd hx hb dX7_draft_8 ?_
  refine tI (nI_add _ _) ?_
  refine lv_istore_n (lv' := [(2, .int (nI ((n) + (d)))), (0, .ref (zad z 2)), (1, .int (x))]) hx hb dX7_draft_9 rfl hl (by decide) rfl (fun ls hl => ?_)
  refine lv_iload_n hx hb dX7_draft_10 rfl (lv_at hl 0 rfl) ?_
  refine lv_sipush (v := nI (8000)) hx hb dX7_draft_11 (by decide) ?_
  refine jN_ge (tgt := 25) (a := (n) + (d)) (b := 8000) C (by omega) (by omega) dX7_draft_14 (by decide) (fun c_14 => ?_) (fun c_14 => ?_)
  · skip
    refine lv_aload_n hx hb dX7_draft_25 rfl (lv_at hl 1 rfl) ?_
    refine lv_dup hx hb dX7_draft_26 rfl ?_
    refine rg_X7_22 C h dX7_draft_27 ?_
    refine tI (y := nI (d)) hd ?_
    refine lv_iconst (v := nI (1)) hx hb dX7_draft_30 (by decide) ?_
    refine lv_iadd hx hb dX7_draft_31 ?_
    refine tI (nI_add _ _) ?_
    refine rp_X7_22 C h dX7_draft_32 (fun H locs h => ?_)
    exact rV C hr hlk h dX7_draft_35 (Nat.le_of_ble_eq_true rfl) (Nat.le_of_ble_eq_true rfl) (by rw [if_neg (by omega)])
  · skip
    refine lv_aload_n hx hb dX7_draft_17 rfl (lv_at hl 1 rfl) ?_
    refine rg_X7_9 C h dX7_draft_18 ?_
    refine lv_iload_n hx hb dX7_draft_21 rfl (lv_at hl 0 rfl) ?_
    refine lv_iload_n hx hb dX7_draft_22 rfl (lv_at hl 2 rfl) ?_
    refine lv_i2b (v := (x).toInt8.toInt32) hx hb dX7_draft_23 rfl ?_
    refine stB (j := (n) + (d)) (x := (x).toInt8.toInt32) (by omega) C h dX7_draft_24 (fun H locs h => ?_)
    refine lv_aload_n hx hb dX7_draft_25 rfl (lv_at hl 1 rfl) ?_
    refine lv_dup hx hb dX7_draft_26 rfl ?_
    refine rg_X7_22 C h dX7_draft_27 ?_
    refine tI (y := nI (d)) hd ?_
    refine lv_iconst (v := nI (1)) hx hb dX7_draft_30 (by decide) ?_
    refine lv_iadd hx hb dX7_draft_31 ?_
    refine tI (nI_add _ _) ?_
    refine rp_X7_22 C h dX7_draft_32 (fun H locs h => ?_)
    exact rV C hr hlk h dX7_draft_35 (Nat.le_of_ble_eq_true rfl) (Nat.le_of_ble_eq_true rfl) (by rw [if_pos (by omega), pk_vb])
theorem um_X7_34 : Cond.methodLink RX7 34 Lib.Math.min.name ∈ uW := uW_of (by decide +kernel) rfl
set_option maxHeartbeats 4000000 in
set_option maxRecDepth 100000 in
/-- Tape.keepDraft -/
theorem k_keepDraft (l : Launch) (z : bZ) (v : bV) (sc : Nat → Int32) (ar : Nat → Nat → Int32) (n d : Nat) (hn : sc 3 = nI n) (hn8 : n ≤ 8000) (hd : sc 5 = nI d) (hd9 : d < 2 ^ 30) : Met l yX7_keepDraft (Cond.code yX7_keepDraft cX7_keepDraft 1 none :: uW) { frames := 1, cells := 0, slots := 0, locals := 21 } (pC z v sc ar [.ref (zad z 2)]) (qV z (fun u => u = (v, va_up (va_up sc 3 (nI (min (n + d) 8000))) 5 (nI 0), ar))) 0 0 (zA z) := by
  refine eM (by decide) (Nat.le_of_ble_eq_true rfl) ?_
  intro pP eE s mM below meth cC ls C hr hlk h hl
  have hx := C.1.1
  have hb := C.1.2.1
  have hl : lv_has ls 1 [(0, .ref (zad z 2))] := hl
  refine lv_aload_n hx hb dX7_keepDraft_0 rfl (lv_at hl 0 rfl) ?_
  refine lv_aload_n hx hb dX7_keepDraft_1 rfl (lv_at hl 0 rfl) ?_
  refine rg_X7_15 C h dX7_keepDraft_2 ?_
  refine tI (y := nI (n)) hn ?_
  refine lv_aload_n hx hb dX7_keepDraft_5 rfl (lv_at hl 0 rfl) ?_
  refine rg_X7_22 C h dX7_keepDraft_6 ?_
  refine tI (y := nI (d)) hd ?_
  refine lv_iadd hx hb dX7_keepDraft_9 ?_
  refine tI (nI_add _ _) ?_
  refine lv_sipush (v := nI (8000)) hx hb dX7_keepDraft_10 (by decide) ?_
  refine mmin C hl.1 um_X7_34 (Nat.le_of_ble_eq_true rfl) (Nat.le_of_ble_eq_true rfl) (Nat.zero_le _) (Nat.zero_le _) dX7_keepDraft_13 ?_
  refine tI (nN_min (by omega) (by omega)) ?_
  refine rp_X7_15 C h dX7_keepDraft_16 (fun H locs h => ?_)
  refine lv_aload_n hx hb dX7_keepDraft_19 rfl (lv_at hl 0 rfl) ?_
  refine lv_iconst (v := nI (0)) hx hb dX7_keepDraft_20 (by decide) ?_
  refine rp_X7_22 C h dX7_keepDraft_21 (fun H locs h => ?_)
  exact rV C hr hlk h dX7_keepDraft_24 (Nat.le_of_ble_eq_true rfl) (Nat.le_of_ble_eq_true rfl) (rfl)
set_option maxHeartbeats 4000000 in
set_option maxRecDepth 100000 in
/-- Tape.startReading -/
theorem k_startReading (l : Launch) (z : bZ) (v : bV) (sc : Nat → Int32) (ar : Nat → Nat → Int32)   : Met l yX7_startReading (Cond.code yX7_startReading cX7_startReading 1 none :: uW) { frames := 0, cells := 0, slots := 0, locals := 0 } (pC z v sc ar [.ref (zad z 2)]) (qV z (fun u => u = (v, va_up sc 6 (sc 4), ar))) 0 0 (zA z) := by
  refine eM (by decide) (Nat.le_of_ble_eq_true rfl) ?_
  intro pP eE s mM below meth cC ls C hr hlk h hl
  have hx := C.1.1
  have hb := C.1.2.1
  have hl : lv_has ls 1 [(0, .ref (zad z 2))] := hl
  refine lv_aload_n hx hb dX7_startReading_0 rfl (lv_at hl 0 rfl) ?_
  refine lv_aload_n hx hb dX7_startReading_1 rfl (lv_at hl 0 rfl) ?_
  refine rg_X7_19 C h dX7_startReading_2 ?_
  refine tI (y := sc 4) rfl ?_
  refine rp_X7_25 C h dX7_startReading_5 (fun H locs h => ?_)
  exact rV C hr hlk h dX7_startReading_8 (Nat.le_of_ble_eq_true rfl) (Nat.le_of_ble_eq_true rfl) (rfl)
theorem gv_X7_40 : GoodIn uW (wsV RX7 40 RX7 yX7_byteAt (Cond.code yX7_byteAt cX7_byteAt 2 (some .int) :: uW)) := gI_V (uW_of (by decide +kernel) rfl) (uW_of (by decide +kernel) rfl) (uW_of (by decide +kernel) rfl) (uW_of (by decide +kernel) rfl) (uW_of (by decide +kernel) rfl)
theorem gv_X7_40_n : okN yX7_byteAt 1 := by decide +kernel
set_option maxHeartbeats 4000000 in
set_option maxRecDepth 100000 in
/-- Tape.next -/
theorem k_next (l : Launch) (z : bZ) (v : bV) (sc : Nat → Int32) (ar : Nat → Nat → Int32) (n cu : Nat) (hn : sc 3 = nI n) (hn8 : n ≤ 8000) (hc : sc 6 = nI cu) (hcu : cu ≤ n) : Met l yX7_next (Cond.code yX7_next cX7_next 2 (some .int) :: uW) { frames := 1, cells := 0, slots := 0, locals := 21 } (pC z v sc ar [.ref (zad z 2)]) (qI z (fun r u => (cu < n → r = ar 11 cu &&& 255 ∧ u = (v, va_up sc 6 (nI (cu + 1)), ar)) ∧ (n ≤ cu → r = -1 ∧ u = (v, sc, ar)))) 0 0 (zA z) := by
  refine eM (by decide) (Nat.le_of_ble_eq_true rfl) ?_
  intro pP eE s mM below meth cC ls C hr hlk h hl
  have hx := C.1.1
  have hb := C.1.2.1
  have hl : lv_has ls 2 [(0, .ref (zad z 2))] := hl
  refine lv_aload_n hx hb dX7_next_0 rfl (lv_at hl 0 rfl) ?_
  refine lv_aload_n hx hb dX7_next_1 rfl (lv_at hl 0 rfl) ?_
  refine rg_X7_25 C h dX7_next_2 ?_
  refine tI (y := nI (cu)) hc ?_
  refine backI h (runV (As := [.int (nI (cu))]) (rest := []) C h (k_byteAt l z v sc ar n (nI cu) hn hn8) gv_X7_40 gv_X7_40_n ⟨rfl, rfl⟩ (r_Tape C h) rfl hl.1 rfl (Nat.le_of_ble_eq_true rfl) dX7_next_5 ⟨Nat.le_of_ble_eq_true rfl, Nat.le_of_ble_eq_true rfl⟩ ⟨Nat.le_of_ble_eq_true rfl, Nat.le_of_ble_eq_true rfl⟩) (fun r_5 v_5 sc_5 ar_5 H locs p_5 h => ?_)
  have h : hH z v sc ar s H locs := uEq p_5.2 h
  refine tI (y := tpAt (ar 11) n (nI cu)) p_5.1 ?_
  refine lv_istore_n (lv' := [(1, .int (tpAt (ar 11) n (nI cu))), (0, .ref (zad z 2))]) hx hb dX7_next_8 rfl hl (by decide) rfl (fun ls hl => ?_)
  refine lv_iload_n hx hb dX7_next_9 rfl (lv_at hl 0 rfl) ?_
  refine lv_iconst (v := (-1)) hx hb dX7_next_10 (by decide) ?_
  refine lv_icmp_eq (tgt := 24) hx hb dX7_next_11 (by decide) (fun c_11 => ?_) (fun c_11 => ?_)
  · skip
    have hq : n ≤ cu := by
      by_cases q : cu < n
      · rw [tpAt_nI (by omega), if_pos q] at c_11
        exact absurd c_11 (and255_ne _)
      · omega
    refine lv_iload_n hx hb dX7_next_24 rfl (lv_at hl 0 rfl) ?_
    exact rI C hr hlk h dX7_next_25 (Nat.le_of_ble_eq_true rfl) (Nat.le_of_ble_eq_true rfl) (⟨fun q => absurd q (by omega), fun _ => ⟨by rw [tpAt_nI (by omega), if_neg (by omega)], rfl⟩⟩)
  · skip
    have hq : cu < n := by
      by_cases q : cu < n
      · exact q
      · rw [tpAt_nI (by omega), if_neg q] at c_11
        exact absurd rfl c_11
    refine lv_aload_n hx hb dX7_next_14 rfl (lv_at hl 1 rfl) ?_
    refine lv_dup hx hb dX7_next_15 rfl ?_
    refine rg_X7_25 C h dX7_next_16 ?_
    refine tI (y := nI (cu)) hc ?_
    refine lv_iconst (v := nI (1)) hx hb dX7_next_19 (by decide) ?_
    refine lv_iadd hx hb dX7_next_20 ?_
    refine tI (nI_add _ _) ?_
    refine rp_X7_25 C h dX7_next_21 (fun H locs h => ?_)
    refine lv_iload_n hx hb dX7_next_24 rfl (lv_at hl 0 rfl) ?_
    exact rI C hr hlk h dX7_next_25 (Nat.le_of_ble_eq_true rfl) (Nat.le_of_ble_eq_true rfl) (⟨fun _ => ⟨by rw [tpAt_nI (by omega), if_pos hq], rfl⟩, fun q => absurd q (by omega)⟩)
set_option maxHeartbeats 4000000 in
set_option maxRecDepth 100000 in
/-- Tape.keepReading -/
theorem k_keepReading (l : Launch) (z : bZ) (v : bV) (sc : Nat → Int32) (ar : Nat → Nat → Int32) (rf cu : Nat) (hf : sc 4 = nI rf) (hc : sc 6 = nI cu) (hcu : rf ≤ cu) : Met l yX7_keepReading (Cond.code yX7_keepReading cX7_keepReading 2 (some .int) :: uW) { frames := 0, cells := 0, slots := 0, locals := 0 } (pC z v sc ar [.ref (zad z 2)]) (qI z (fun r u => r = nI (cu - rf) ∧ u = (v, va_up sc 4 (nI cu), ar))) 0 0 (zA z) := by
  refine eM (by decide) (Nat.le_of_ble_eq_true rfl) ?_
  intro pP eE s mM below meth cC ls C hr hlk h hl
  have hx := C.1.1
  have hb := C.1.2.1
  have hl : lv_has ls 2 [(0, .ref (zad z 2))] := hl
  refine lv_aload_n hx hb dX7_keepReading_0 rfl (lv_at hl 0 rfl) ?_
  refine rg_X7_25 C h dX7_keepReading_1 ?_
  refine tI (y := nI (cu)) hc ?_
  refine lv_aload_n hx hb dX7_keepReading_4 rfl (lv_at hl 0 rfl) ?_
  refine rg_X7_19 C h dX7_keepReading_5 ?_
  refine tI (y := nI (rf)) hf ?_
  refine lv_isub hx hb dX7_keepReading_8 ?_
  refine tI (pk_sub (by omega)) ?_
  refine lv_istore_n (lv' := [(1, .int (nI ((cu) - (rf)))), (0, .ref (zad z 2))]) hx hb dX7_keepReading_9 rfl hl (by decide) rfl (fun ls hl => ?_)
  refine lv_aload_n hx hb dX7_keepReading_10 rfl (lv_at hl 1 rfl) ?_
  refine lv_aload_n hx hb dX7_keepReading_11 rfl (lv_at hl 1 rfl) ?_
  refine rg_X7_25 C h dX7_keepReading_12 ?_
  refine tI (y := nI (cu)) hc ?_
  refine rp_X7_19 C h dX7_keepReading_15 (fun H locs h => ?_)
  refine lv_iload_n hx hb dX7_keepReading_18 rfl (lv_at hl 0 rfl) ?_
  exact rI C hr hlk h dX7_keepReading_19 (Nat.le_of_ble_eq_true rfl) (Nat.le_of_ble_eq_true rfl) (⟨rfl, rfl⟩)
set_option maxHeartbeats 4000000 in
set_option maxRecDepth 100000 in
/-- Tape.fail -/
theorem k_fail (l : Launch) (z : bZ) (v : bV) (sc : Nat → Int32) (ar : Nat → Nat → Int32) (x y : Int32)  : Met l yX7_fail (Cond.code yX7_fail cX7_fail 3 (some .boolean) :: uW) { frames := 0, cells := 0, slots := 0, locals := 0 } (pC z v sc ar [.ref (zad z 2), .int (x), .int (y)]) (qI z (fun r u => r = 0 ∧ u = (v, va_up (va_up sc 7 x) 8 y, ar))) 0 0 (zA z) := by
  refine eM (by decide) (Nat.le_of_ble_eq_true rfl) ?_
  intro pP eE s mM below meth cC ls C hr hlk h hl
  have hx := C.1.1
  have hb := C.1.2.1
  have hl : lv_has ls 3 [(0, .ref (zad z 2)), (1, .int (x)), (2, .int (y))] := hl
  refine lv_aload_n hx hb dX7_fail_0 rfl (lv_at hl 0 rfl) ?_
  refine lv_iload_n hx hb dX7_fail_1 rfl (lv_at hl 1 rfl) ?_
  refine rp_X7_28 C h dX7_fail_2 (fun H locs h => ?_)
  refine lv_aload_n hx hb dX7_fail_5 rfl (lv_at hl 0 rfl) ?_
  refine lv_iload_n hx hb dX7_fail_6 rfl (lv_at hl 2 rfl) ?_
  refine rp_X7_31 C h dX7_fail_7 (fun H locs h => ?_)
  refine lv_iconst (v := nI (0)) hx hb dX7_fail_10 (by decide) ?_
  exact rZ C hr hlk h dX7_fail_11 rfl (Nat.le_of_ble_eq_true rfl) (Nat.le_of_ble_eq_true rfl) (⟨rfl, rfl⟩)
end
section
/-! ===== lN n to 2^64: shifts, and, or, masks, one bit ===== -/
theorem wb_tb (n : Nat) : (lN n).toBitVec = BitVec.ofNat 64 n := rfl
theorem wb_inj {a b : Int64} (h : a.toBitVec = b.toBitVec) : a = b := Int64.toBitVec_inj.mp h
theorem wb_tn {n : Nat} (h : n < 2 ^ 64) : (lN n).toBitVec.toNat = n := by rw [wb_tb, BitVec.toNat_ofNat, Nat.mod_eq_of_lt h]
theorem wb_of (x : Int64) : ∃ n, n < 2 ^ 64 ∧ x = lN n := ⟨x.toBitVec.toNat, x.toBitVec.isLt, wb_inj (by rw [wb_tb]; simp)⟩
theorem wb_of32 (x : Int32) : ∃ n, n < 2 ^ 32 ∧ x = nI n := ⟨x.toBitVec.toNat, x.toBitVec.isLt, Int32.toBitVec_inj.mp (by show _ = BitVec.ofNat 32 _; simp)⟩
theorem wb_c : ∀ k, k < 64 → ((nI k).toInt64 &&& 63) = lN k := by decide +kernel
theorem wb_cu : ∀ k, k < 64 → ((nI k).toInt64.toUInt64 &&& Int64.toUInt64 63) = UInt64.ofNat k := by decide +kernel
theorem wb_sm : ∀ k, k < 64 → (BitVec.ofNat 64 k).smod 64 = BitVec.ofNat 64 k := by decide +kernel
theorem wb_pw {a b : Nat} (h : a ≤ b) : 2 ^ b = 2 ^ a * 2 ^ (b - a) := by rw [← Nat.pow_add]; congr 1; omega
theorem wb_mod (n : Nat) : lN n = lN (n % 2 ^ 64) := wb_inj (by rw [wb_tb, wb_tb]; apply BitVec.eq_of_toNat_eq; rw [BitVec.toNat_ofNat, BitVec.toNat_ofNat, Nat.mod_mod])
theorem wb_shl (n : Nat) {k : Nat} (hk : k < 64) : lN n <<< ((nI k).toInt64 &&& 63) = lN (n * 2 ^ k) := by
  rw [wb_c k hk]
  apply wb_inj
  rw [Int64.toBitVec_shiftLeft, wb_tb, wb_tb, wb_tb, wb_sm k hk]
  apply BitVec.eq_of_toNat_eq
  rw [BitVec.shiftLeft_eq', BitVec.toNat_shiftLeft, BitVec.toNat_ofNat, BitVec.toNat_ofNat, BitVec.toNat_ofNat, Nat.mod_eq_of_lt (show k < 2 ^ 64 by omega), Nat.shiftLeft_eq, Nat.mul_mod, Nat.mod_mod, ← Nat.mul_mod]
theorem pf_lI {a : Nat} (h : a < 2 ^ 63) : (lN a).toInt = (a : Int) := lg_ofNat_toInt h
theorem pf_shr {a d : Nat} {D : Int64} (hD : (D.toBitVec.smod 64).toNat = d) (h : a < 2 ^ 62) : lN a >>> D = lN (a / 2 ^ d) := by
  have hd : a / 2 ^ d ≤ a := Nat.div_le_self _ _
  apply Int64.toInt_inj.mp
  have e : (lN a >>> D).toInt = (lN a).toInt >>> d := by
    rw [← hD]
    exact BitVec.toInt_sshiftRight ..
  rw [e, Int.shiftRight_eq_div_pow, pf_lI (by omega), pf_lI (by omega)]
  rfl
/-! Numbers and codes: what a coding says, in words of its own. -/
def toldI (d : Nat) (x y : Int32) : Int32 := if d = 1 then x - y else x
/-- the code of a number, if it has one -/
def cdO (s : Nat) (t : Int32) : Option Nat :=
  if 0 ≤ t.toInt then some (if s = 0 then t.toInt.toNat else t.toInt.toNat + t.toInt.toNat / (2 ^ s - 1))
  else if s = 0 then none else if 2 ^ s * (-t.toInt).toNat - 1 < 4294967296 then some (2 ^ s * (-t.toInt).toNat - 1) else none
def oL (o : Option Nat) : Int64 := match o with
  | some c => lN c
  | none => -1
/-- the number of a code, if it is one -/
def nbO (s c : Nat) : Option Int :=
  if 4294967296 ≤ c then none
  else if s ≠ 0 ∧ (c + 1) % 2 ^ s = 0 then some (-(((c + 1) / 2 ^ s : Nat) : Int))
  else if (if s = 0 then c else c - c / 2 ^ s) < 2147483648 then some (((if s = 0 then c else c - c / 2 ^ s) : Nat) : Int) else none
def nL64 (o : Option Int) : Int64 := match o with
  | some i => Int64.ofInt i
  | none => lN 4294967296
/-- the bytes of a code -/
def enc : Nat → Nat → Nat → Option (List Nat)
  | 0, _, _ => none
  | 1, _, c => if c < 256 then some [c] else none
  | k + 2, h, c => if c < 256 - h then some [c] else (enc (k + 1) h ((c - (256 - h)) / h)).map (fun t => (256 - h + (c - (256 - h)) % h) :: t)
theorem i32_range (t : Int32) : -2147483648 ≤ t.toInt ∧ t.toInt < 2147483648 := ⟨Int32.le_toInt t, Int32.toInt_lt t⟩
theorem t_pos {t : Int32} (h : 0 ≤ t.toInt) : ∃ k : Nat, k < 2147483648 ∧ t = nI k ∧ t.toInt = k := by
  have hr := i32_range t
  refine ⟨t.toInt.toNat, by omega, ?_, by omega⟩
  apply Int32.toInt_inj.mp
  rw [nI_toInt (by omega)]
  omega
theorem t64 (t : Int32) : t.toInt64.toInt = t.toInt := Int32.toInt_toInt64 t
theorem t_posL {t : Int32} (h : ¬ t.toInt64 < lN 0) : ∃ k : Nat, k < 2147483648 ∧ t = nI k ∧ t.toInt = k := by
  apply t_pos
  rw [Int64.lt_iff_toInt_lt, t64, pk_lT (by decide)] at h
  omega
theorem t_negL {t : Int32} (h : t.toInt64 < lN 0) : ∃ k : Nat, 0 < k ∧ k ≤ 2147483648 ∧ t.toInt = -(k : Int) ∧ -t.toInt64 = lN k := by
  rw [Int64.lt_iff_toInt_lt, t64, pk_lT (by decide)] at h
  have hr := i32_range t
  refine ⟨(-t.toInt).toNat, by omega, by omega, by omega, ?_⟩
  apply Int64.toInt_inj.mp
  rw [pk_lT (by omega), Int64.toInt_neg, t64, Int.bmod_def]
  omega
theorem lshN (k : Nat) {s : Nat} (hs : s ≤ 2) : lN k <<< ((nI s).toInt64 &&& 63) = lN (k * 2 ^ s) := wb_shl k (by omega)
theorem lsrN {k s : Nat} (hk : k < 2 ^ 62) (hs : s ≤ 2) : lN k >>> ((nI s).toInt64 &&& 63) = lN (k / 2 ^ s) := by
  rw [wb_c s (by omega)]
  refine pf_shr ?_ hk
  rcases (show s = 0 ∨ s = 1 ∨ s = 2 by omega) with rfl | rfl | rfl <;> decide
theorem cdO_lt {s : Nat} {t : Int32} {c : Nat} (hs : s ≤ 2) (h : cdO s t = some c) : c < 4294967296 := by
  have hr := i32_range t
  have hk : t.toInt.toNat < 2147483648 := by omega
  unfold cdO at h
  generalize t.toInt.toNat = k at h hk
  split at h
  · cases h
    rcases (show s = 0 ∨ s = 1 ∨ s = 2 by omega) with rfl | rfl | rfl
    · rw [if_pos rfl]; omega
    · rw [if_neg (by decide), show (2 : Nat) ^ 1 - 1 = 1 from rfl, Nat.div_one]; omega
    · rw [if_neg (by decide), show (2 : Nat) ^ 2 - 1 = 3 from rfl]; omega
  · split at h
    · cases h
    · split at h
      · cases h; assumption
      · cases h
theorem lN_neg1 {c : Nat} (h : c < 2 ^ 63) : ¬ lN c = -1 := by
  intro q
  have h1 := congrArg Int64.toInt q
  rw [pk_lT h] at h1
  have : (-1 : Int64).toInt = -1 := by decide
  omega
/-- bytes behind place p -/
def wrB (b : Nat → Int32) (p : Nat) (bs : List Nat) : Nat → Int32 := fun j => if p ≤ j ∧ j < p + bs.length ∧ j < 8000 then sb_b (bs.getD (j - p) 0) else b j
theorem wrB_nil (b : Nat → Int32) (p : Nat) : wrB b p [] = b := by
  funext j
  unfold wrB
  rw [if_neg (by simp; omega)]
theorem wrB_app (b : Nat → Int32) (p : Nat) (xs ys : List Nat) : wrB (wrB b p xs) (p + xs.length) ys = wrB b p (xs ++ ys) := by
  funext j
  unfold wrB
  simp only [List.length_append]
  by_cases h1 : p + xs.length ≤ j ∧ j < p + xs.length + ys.length ∧ j < 8000
  · rw [if_pos h1, if_pos (by omega)]
    congr 1
    rw [List.getD_eq_getElem?_getD, List.getD_eq_getElem?_getD, List.getElem?_append_right (by omega)]
    congr 2
    omega
  · rw [if_neg h1]
    by_cases h2 : p ≤ j ∧ j < p + xs.length ∧ j < 8000
    · rw [if_pos h2, if_pos (by omega)]
      congr 1
      rw [List.getD_eq_getElem?_getD, List.getD_eq_getElem?_getD, List.getElem?_append_left (by omega)]
    · rw [if_neg h2, if_neg (by omega)]
theorem wrB_low {b : Nat → Int32} {p : Nat} {bs : List Nat} {j : Nat} (h : j < p) : wrB b p bs j = b j := by
  unfold wrB
  rw [if_neg (by omega)]
theorem wrB_one (b : Nat → Int32) (p x : Nat) : (if p < 8000 then upd b p (nI x).toInt8.toInt32 else b) = wrB b p [x] := by
  funext j
  unfold wrB
  by_cases h : p < 8000
  · rw [if_pos h]
    unfold upd
    by_cases hj : j = p
    · rw [if_pos hj, if_pos (by simp; omega), hj]
      simp [sb_b]
    · rw [if_neg hj, if_neg (by simp; omega)]
  · rw [if_neg h, if_neg (by simp; omega)]
theorem va_uu {α : Type} (f : Nat → α) (k : Nat) (x y : α) : va_up (va_up f k x) k y = va_up f k y := by
  funext j
  unfold va_up
  split <;> rfl
theorem va_us {α : Type} (f : Nat → α) (k : Nat) : va_up f k (f k) = f := by
  funext j
  unfold va_up
  split
  · rename_i h; rw [h]
  · rfl
theorem va_ue {α : Type} {f : Nat → α} {k : Nat} {x : α} (h : f k = x) : va_up f k x = f := by rw [← h, va_us]
theorem wr_start {sc : Nat → Int32} {ar : Nat → Nat → Int32} {n d : Nat} (hd : sc 5 = nI d) : va_up sc 5 (nI (d + ([] : List Nat).length)) = sc ∧ va_up ar 11 (wrB (ar 11) (n + d) []) = ar := ⟨va_ue hd, by rw [wrB_nil, va_us]⟩
theorem dr_eq (ar : Nat → Nat → Int32) (n d : Nat) (done : List Nat) (x : Nat) : (if n + (d + done.length) < 8000 then va_up (va_up ar 11 (wrB (ar 11) (n + d) done)) 11 (upd (va_up ar 11 (wrB (ar 11) (n + d) done) 11) (n + (d + done.length)) (nI x).toInt8.toInt32) else va_up ar 11 (wrB (ar 11) (n + d) done)) = va_up ar 11 (wrB (ar 11) (n + d) (done ++ [x])) := by
  rw [← wrB_app, ← wrB_one, va_up_self, show n + d + done.length = n + (d + done.length) by omega]
  split
  · rw [va_uu]
  · rfl
set_option maxHeartbeats 4000000 in
/-- Tape.draft behind what has been drafted -/
theorem k_drB (l : Launch) (z : bZ) (v : bV) (sc : Nat → Int32) (ar : Nat → Nat → Int32) (n d : Nat) (done : List Nat) (x : Nat) (hn : sc 3 = nI n) (hn8 : n ≤ 8000) (hd : d + done.length < 2 ^ 30) :
    Met l yX7_draft (Cond.code yX7_draft cX7_draft 3 none :: uW) { frames := 0, cells := 0, slots := 0, locals := 0 } (pC z v (va_up sc 5 (nI (d + done.length))) (va_up ar 11 (wrB (ar 11) (n + d) done)) [.ref (zad z 2), .int (nI x)]) (qV z (fun u => u = (v, va_up sc 5 (nI (d + (done ++ [x]).length)), va_up ar 11 (wrB (ar 11) (n + d) (done ++ [x]))))) 0 0 (zA z) := by
  have h := k_draft l z v (va_up sc 5 (nI (d + done.length))) (va_up ar 11 (wrB (ar 11) (n + d) done)) n (d + done.length) (nI x) hn hn8 rfl hd
  rw [dr_eq, va_uu] at h
  rw [show d + (done ++ [x]).length = d + done.length + 1 by simp; omega]
  exact h
/-- a way that is a coding -/
def cdW (v : bV) (a cb ch cs cd : Nat) : Prop := a ∈ v.2.2.1 ∧ v.2.2.2 a = .inr (1, [.int (nI 0), .int (nI cb), .int (nI ch), .int (nI cs), .int (nI cd), .int (nI (256 - ch))]) ∧ (1 ≤ cb ∧ cb ≤ 5) ∧ (1 ≤ ch ∧ ch ≤ 256) ∧ cs ≤ 2 ∧ cd ≤ 1
section POOL
variable {p : Program} {l : Launch} {e : Env} {R : Room} {s : State} {m : MethodId} {args : Array Value} {below : List Frame} {meth : Method} {c : Code} {H : Heap} {locs : List Loc} {cells slots : Nat} {Q : State → Prop}
variable {z : bZ} {v : bV} {sc : Nat → Int32} {ar : Nat → Nat → Int32} {cc : ByteArray} {nL : Nat} {own : String} {pc : Nat} {ls : Array Slot} {rest : List Value}
/-- a field of a way -/
theorem rgP {ci k N a ix : Nat} {Cn ref : String} {T : u_T} {fs : List Value} {x : Value} (C : cX z p m c cc nL s args own) (h : hH z v sc ar s H locs) (ha : a ∈ v.2.2.1) (hf : v.2.2.2 a = .inr (ci, fs)) (hc : vwCl[ci]? = some (Cn, T, N)) (hk : k < N) (hi : ∀ w ∈ u_ws Cn T N, w ∈ uW) (hl : Cond.fieldLink own ix ref (T k).2.1 (T k).2.2.1 ∈ uW)
    (hsame : ∀ x, s.fieldFound? (T k).1 (T k).2.1 (T k).2.2.1 = some x → s.fieldFound? ref (T k).2.1 (T k).2.2.1 = some x) (hv : fs[k]? = some x) (hd : decode cc pc = .ok (.getfield ix, 3)) (kk : W p l e R s m args below meth c H locs cells slots Q (F0 m (pc + 3) ls (x :: rest))) : W p l e R s m args below meth c H locs cells slots Q (F0 m pc ls (.ref a :: rest)) := by
  obtain ⟨q, hq⟩ := va_pl_get (X := gO z v sc ar) (f := v.2.2.2) ha
  rw [hf] at hq
  exact va_get (D := zD z) (ws := gW z v sc ar) C.1.1 C.1.2.1 C.1.2.2.2.2 hi C.1.2.2.2.1 C.2.1 h.1.1 q hq hc k hk (C.1.2.2.2.2 _ hl) hsame hv hd kk
theorem rcvP {ci a : Nat} {fs : List Value} {q : vw_C} (C : cX z p m c cc nL s args own) (h : hH z v sc ar s H locs) (ha : a ∈ v.2.2.1) (hf : v.2.2.2 a = .inr (ci, fs)) (hc : vwCl[ci]? = some q) : ∃ cell : Cell, H[a]? = some cell ∧ cell.vm.isStatics = false ∧ s.vm.findClass q.1 = some cell.cls := by
  obtain ⟨k, hk⟩ := va_pl_get (X := gO z v sc ar) (f := v.2.2.2) ha
  rw [hf] at hk
  exact va_recv (ws := gW z v sc ar) C.2.1 h.1.1 hc hk
theorem r_Cod {a cb ch cs cd : Nat} (C : cX z p m c cc nL s args own) (h : hH z v sc ar s H locs) (hw : cdW v a cb ch cs cd) : ∃ cell : Cell, H[a]? = some cell ∧ cell.vm.isStatics = false ∧ s.vm.findClass RX1 = some cell.cls := rcvP C h hw.1 hw.2.1 rfl
theorem uw_X1_9 : Cond.fieldLink RX1 9 "BandMill$Coding" "b" "I" ∈ uW := uW_of (by decide +kernel) rfl
theorem rw_X1_9 {a cb ch cs cd : Nat} (C : cX z p m c cc nL s args RX1) (h : hH z v sc ar s H locs) (hw : cdW v a cb ch cs cd) (hd : decode cc pc = .ok (.getfield 9, 3)) (kk : W p l e R s m args below meth c H locs cells slots Q (F0 m (pc + 3) ls (.int (nI (cb)) :: rest))) : W p l e R s m args below meth c H locs cells slots Q (F0 m pc ls (.ref a :: rest)) :=
  rgP (k := 1) (T := TX1) C h hw.1 hw.2.1 rfl (by decide) iX1 uw_X1_9 (fun _ q => q) rfl hd kk
theorem uw_X1_15 : Cond.fieldLink RX1 15 "BandMill$Coding" "h" "I" ∈ uW := uW_of (by decide +kernel) rfl
theorem rw_X1_15 {a cb ch cs cd : Nat} (C : cX z p m c cc nL s args RX1) (h : hH z v sc ar s H locs) (hw : cdW v a cb ch cs cd) (hd : decode cc pc = .ok (.getfield 15, 3)) (kk : W p l e R s m args below meth c H locs cells slots Q (F0 m (pc + 3) ls (.int (nI (ch)) :: rest))) : W p l e R s m args below meth c H locs cells slots Q (F0 m pc ls (.ref a :: rest)) :=
  rgP (k := 2) (T := TX1) C h hw.1 hw.2.1 rfl (by decide) iX1 uw_X1_15 (fun _ q => q) rfl hd kk
theorem uw_X1_18 : Cond.fieldLink RX1 18 "BandMill$Coding" "s" "I" ∈ uW := uW_of (by decide +kernel) rfl
theorem rw_X1_18 {a cb ch cs cd : Nat} (C : cX z p m c cc nL s args RX1) (h : hH z v sc ar s H locs) (hw : cdW v a cb ch cs cd) (hd : decode cc pc = .ok (.getfield 18, 3)) (kk : W p l e R s m args below meth c H locs cells slots Q (F0 m (pc + 3) ls (.int (nI (cs)) :: rest))) : W p l e R s m args below meth c H locs cells slots Q (F0 m pc ls (.ref a :: rest)) :=
  rgP (k := 3) (T := TX1) C h hw.1 hw.2.1 rfl (by decide) iX1 uw_X1_18 (fun _ q => q) rfl hd kk
theorem uw_X1_21 : Cond.fieldLink RX1 21 "BandMill$Coding" "d" "I" ∈ uW := uW_of (by decide +kernel) rfl
theorem rw_X1_21 {a cb ch cs cd : Nat} (C : cX z p m c cc nL s args RX1) (h : hH z v sc ar s H locs) (hw : cdW v a cb ch cs cd) (hd : decode cc pc = .ok (.getfield 21, 3)) (kk : W p l e R s m args below meth c H locs cells slots Q (F0 m (pc + 3) ls (.int (nI (cd)) :: rest))) : W p l e R s m args below meth c H locs cells slots Q (F0 m pc ls (.ref a :: rest)) :=
  rgP (k := 4) (T := TX1) C h hw.1 hw.2.1 rfl (by decide) iX1 uw_X1_21 (fun _ q => q) rfl hd kk
theorem uw_X1_24 : Cond.fieldLink RX1 24 "BandMill$Coding" "low" "I" ∈ uW := uW_of (by decide +kernel) rfl
theorem rw_X1_24 {a cb ch cs cd : Nat} (C : cX z p m c cc nL s args RX1) (h : hH z v sc ar s H locs) (hw : cdW v a cb ch cs cd) (hd : decode cc pc = .ok (.getfield 24, 3)) (kk : W p l e R s m args below meth c H locs cells slots Q (F0 m (pc + 3) ls (.int (nI (256 - ch)) :: rest))) : W p l e R s m args below meth c H locs cells slots Q (F0 m pc ls (.ref a :: rest)) :=
  rgP (k := 5) (T := TX1) C h hw.1 hw.2.1 rfl (by decide) iX1 uw_X1_24 (fun _ q => q) rfl hd kk
end POOL
end
section
theorem cdO_pos {s k : Nat} {t : Int32} (h : t.toInt = k) : cdO s t = some (if s = 0 then k else k + k / (2 ^ s - 1)) := by
  unfold cdO
  rw [if_pos (by omega), h]
  rfl
theorem cdO_neg0 {k : Nat} {t : Int32} (h : t.toInt = -(k : Int)) (hk : 0 < k) : cdO 0 t = none := by
  unfold cdO
  rw [if_neg (by omega), if_pos rfl]
theorem cdO_neg {s k w : Nat} {t : Int32} (hs : s ≠ 0) (hw : 2 ^ s = w) (h : t.toInt = -(k : Int)) (hk : 0 < k) : cdO s t = if w * k - 1 < 4294967296 then some (w * k - 1) else none := by
  unfold cdO
  rw [if_neg (by omega), if_neg hs, hw, show (-t.toInt).toNat = k by omega]
theorem uk_X1_50 : Cond.constantLong RX1 50 (-1) ∈ uW := uW_of (by decide +kernel) rfl
theorem uk_X1_60 : Cond.constantLong RX1 60 (4294967296) ∈ uW := uW_of (by decide +kernel) rfl
set_option maxHeartbeats 4000000 in
set_option maxRecDepth 100000 in
/-- Coding.codeOf -/
theorem k_codeOf (l : Launch) (z : bZ) (v : bV) (sc : Nat → Int32) (ar : Nat → Nat → Int32) (a cb ch cs cd : Nat) (x y : Int32) (hw : cdW v a cb ch cs cd) : Met l yX1_codeOf (Cond.code yX1_codeOf cX1_codeOf 7 (some .long) :: uW) { frames := 0, cells := 0, slots := 0, locals := 0 } (pC z v sc ar [.ref (a), .int (x), .int (y)]) (qL z (fun r u => r = oL (cdO cs (toldI cd x y)) ∧ u = (v, sc, ar))) 0 0 (zA z) := by
  refine eM (by decide) (Nat.le_of_ble_eq_true rfl) ?_
  intro pP eE s mM below meth cC ls C hr hlk h hl
  have hx := C.1.1
  have hb := C.1.2.1
  have hl : lv_has ls 7 [(0, .ref (a)), (1, .int (x)), (2, .int (y))] := hl
  obtain ⟨-, -, ⟨hB1, hB5⟩, ⟨hH1, hH2⟩, hS, hD⟩ := id hw
  rcases (show cs = 0 ∨ cs = 1 ∨ cs = 2 by omega) with rfl | rfl | rfl
  · skip
    refine lv_aload_n hx hb dX1_codeOf_0 rfl (lv_at hl 0 rfl) ?_
    refine rw_X1_21 C h hw dX1_codeOf_1 ?_
    refine lv_iconst (v := nI (1)) hx hb dX1_codeOf_4 (by decide) ?_
    refine jN_ne (tgt := 15) (a := cd) (b := 1) C (by omega) (by omega) dX1_codeOf_5 (by decide) (fun c_5 => ?_) (fun c_5 => ?_)
    · skip
      refine lv_iload_n hx hb dX1_codeOf_15 rfl (lv_at hl 1 rfl) ?_
      refine lv_i2l (v := (toldI cd x y).toInt64) hx hb dX1_codeOf_16 (by rw [toldI, if_neg c_5]) ?_
      refine lv_lstore_n (lv' := [(3, .long ((toldI cd x y).toInt64)), (0, .ref (a)), (1, .int (x)), (2, .int (y))]) hx hb dX1_codeOf_17 rfl hl (by decide) rfl (fun ls hl => ?_)
      refine lv_lload_n hx hb dX1_codeOf_18 rfl (lv_at hl 0 rfl) ?_
      refine lv_lconst (v := lN 0) hx hb dX1_codeOf_19 (by decide) ?_
      refine W.lcmp hx hb dX1_codeOf_20 ?_
      refine lv_if_lt (tgt := 49) hx hb dX1_codeOf_21 (by decide) (fun c_21 => ?_) (fun c_21 => ?_)
      · skip
        have c_21 : ((toldI cd x y).toInt64) < (lN (0)) := (lg_cmp_lt _ _).mp c_21
        obtain ⟨k, hk0, hk, hti, hng⟩ := t_negL c_21
        refine lv_lload_n hx hb dX1_codeOf_49 rfl (lv_at hl 0 rfl) ?_
        refine lv_lneg hx hb dX1_codeOf_50 ?_
        refine tL (y := lN (k)) hng ?_
        refine lv_aload_n hx hb dX1_codeOf_51 rfl (lv_at hl 1 rfl) ?_
        refine rw_X1_18 C h hw dX1_codeOf_52 ?_
        refine lv_lshl (v := lN (k * 1)) hx hb dX1_codeOf_55 (lshN k (s := 0) (by decide)) ?_
        refine lv_lconst (v := lN 1) hx hb dX1_codeOf_56 (by decide) ?_
        refine lv_lsub hx hb dX1_codeOf_57 ?_
        refine tL (lN_sub (by omega)) ?_
        refine lv_lstore (lv' := [(5, .long (lN ((k * 1) - (1)))), (3, .long ((toldI cd x y).toInt64)), (0, .ref (a)), (1, .int (x)), (2, .int (y))]) hx hb dX1_codeOf_58 hl (by decide) rfl (fun ls hl => ?_)
        refine lv_aload_n hx hb dX1_codeOf_60 rfl (lv_at hl 2 rfl) ?_
        refine rw_X1_18 C h hw dX1_codeOf_61 ?_
        refine zN_eq (tgt := 81) (a := 0) C (by decide) dX1_codeOf_64 (by decide) (fun _ => ?_) (fun q => absurd q (by decide))
        refine lv_ldc2 (v := -1) hx hb C.1.2.2.2.1 (C.1.2.2.2.2 _ uk_X1_50) dX1_codeOf_81 ?_
        exact rL C hr hlk h dX1_codeOf_84 (Nat.le_of_ble_eq_true rfl) (Nat.le_of_ble_eq_true rfl) (⟨by rw [cdO_neg0 hti hk0]; rfl, rfl⟩)
      · skip
        have c_21 : ¬ ((toldI cd x y).toInt64) < (lN (0)) := fun q => c_21 ((lg_cmp_lt _ _).mpr q)
        obtain ⟨k, hk, ht, hti⟩ := t_posL c_21
        have e3 : (toldI cd x y).toInt64 = lN k := by rw [ht]; exact nI_l (by omega)
        have hl : lv_has ls 7 [(3, .long (lN (k))), (0, .ref (a)), (1, .int (x)), (2, .int (y))] := by rw [e3] at hl; exact hl
        refine lv_aload_n hx hb dX1_codeOf_24 rfl (lv_at hl 1 rfl) ?_
        refine rw_X1_18 C h hw dX1_codeOf_25 ?_
        refine zN_ne (tgt := 35) (a := 0) C (by decide) dX1_codeOf_28 (by decide) (fun q => absurd q (by decide)) (fun _ => ?_)
        refine lv_lload_n hx hb dX1_codeOf_31 rfl (lv_at hl 0 rfl) ?_
        refine lv_goto (tgt := 48) hx hb dX1_codeOf_32 (by decide) ?_
        exact rL C hr hlk h dX1_codeOf_48 (Nat.le_of_ble_eq_true rfl) (Nat.le_of_ble_eq_true rfl) (⟨by rw [cdO_pos hti]; rfl, rfl⟩)
    · skip
      refine lv_iload_n hx hb dX1_codeOf_8 rfl (lv_at hl 1 rfl) ?_
      refine lv_iload_n hx hb dX1_codeOf_9 rfl (lv_at hl 2 rfl) ?_
      refine lv_isub hx hb dX1_codeOf_10 ?_
      refine lv_i2l (v := (toldI cd x y).toInt64) hx hb dX1_codeOf_11 (by rw [toldI, if_pos c_5]) ?_
      refine lv_goto (tgt := 17) hx hb dX1_codeOf_12 (by decide) ?_
      refine lv_lstore_n (lv' := [(3, .long ((toldI cd x y).toInt64)), (0, .ref (a)), (1, .int (x)), (2, .int (y))]) hx hb dX1_codeOf_17 rfl hl (by decide) rfl (fun ls hl => ?_)
      refine lv_lload_n hx hb dX1_codeOf_18 rfl (lv_at hl 0 rfl) ?_
      refine lv_lconst (v := lN 0) hx hb dX1_codeOf_19 (by decide) ?_
      refine W.lcmp hx hb dX1_codeOf_20 ?_
      refine lv_if_lt (tgt := 49) hx hb dX1_codeOf_21 (by decide) (fun c_21 => ?_) (fun c_21 => ?_)
      · skip
        have c_21 : ((toldI cd x y).toInt64) < (lN (0)) := (lg_cmp_lt _ _).mp c_21
        obtain ⟨k, hk0, hk, hti, hng⟩ := t_negL c_21
        refine lv_lload_n hx hb dX1_codeOf_49 rfl (lv_at hl 0 rfl) ?_
        refine lv_lneg hx hb dX1_codeOf_50 ?_
        refine tL (y := lN (k)) hng ?_
        refine lv_aload_n hx hb dX1_codeOf_51 rfl (lv_at hl 1 rfl) ?_
        refine rw_X1_18 C h hw dX1_codeOf_52 ?_
        refine lv_lshl (v := lN (k * 1)) hx hb dX1_codeOf_55 (lshN k (s := 0) (by decide)) ?_
        refine lv_lconst (v := lN 1) hx hb dX1_codeOf_56 (by decide) ?_
        refine lv_lsub hx hb dX1_codeOf_57 ?_
        refine tL (lN_sub (by omega)) ?_
        refine lv_lstore (lv' := [(5, .long (lN ((k * 1) - (1)))), (3, .long ((toldI cd x y).toInt64)), (0, .ref (a)), (1, .int (x)), (2, .int (y))]) hx hb dX1_codeOf_58 hl (by decide) rfl (fun ls hl => ?_)
        refine lv_aload_n hx hb dX1_codeOf_60 rfl (lv_at hl 2 rfl) ?_
        refine rw_X1_18 C h hw dX1_codeOf_61 ?_
        refine zN_eq (tgt := 81) (a := 0) C (by decide) dX1_codeOf_64 (by decide) (fun _ => ?_) (fun q => absurd q (by decide))
        refine lv_ldc2 (v := -1) hx hb C.1.2.2.2.1 (C.1.2.2.2.2 _ uk_X1_50) dX1_codeOf_81 ?_
        exact rL C hr hlk h dX1_codeOf_84 (Nat.le_of_ble_eq_true rfl) (Nat.le_of_ble_eq_true rfl) (⟨by rw [cdO_neg0 hti hk0]; rfl, rfl⟩)
      · skip
        have c_21 : ¬ ((toldI cd x y).toInt64) < (lN (0)) := fun q => c_21 ((lg_cmp_lt _ _).mpr q)
        obtain ⟨k, hk, ht, hti⟩ := t_posL c_21
        have e3 : (toldI cd x y).toInt64 = lN k := by rw [ht]; exact nI_l (by omega)
        have hl : lv_has ls 7 [(3, .long (lN (k))), (0, .ref (a)), (1, .int (x)), (2, .int (y))] := by rw [e3] at hl; exact hl
        refine lv_aload_n hx hb dX1_codeOf_24 rfl (lv_at hl 1 rfl) ?_
        refine rw_X1_18 C h hw dX1_codeOf_25 ?_
        refine zN_ne (tgt := 35) (a := 0) C (by decide) dX1_codeOf_28 (by decide) (fun q => absurd q (by decide)) (fun _ => ?_)
        refine lv_lload_n hx hb dX1_codeOf_31 rfl (lv_at hl 0 rfl) ?_
        refine lv_goto (tgt := 48) hx hb dX1_codeOf_32 (by decide) ?_
        exact rL C hr hlk h dX1_codeOf_48 (Nat.le_of_ble_eq_true rfl) (Nat.le_of_ble_eq_true rfl) (⟨by rw [cdO_pos hti]; rfl, rfl⟩)
  · skip
    refine lv_aload_n hx hb dX1_codeOf_0 rfl (lv_at hl 0 rfl) ?_
    refine rw_X1_21 C h hw dX1_codeOf_1 ?_
    refine lv_iconst (v := nI (1)) hx hb dX1_codeOf_4 (by decide) ?_
    refine jN_ne (tgt := 15) (a := cd) (b := 1) C (by omega) (by omega) dX1_codeOf_5 (by decide) (fun c_5 => ?_) (fun c_5 => ?_)
    · skip
      refine lv_iload_n hx hb dX1_codeOf_15 rfl (lv_at hl 1 rfl) ?_
      refine lv_i2l (v := (toldI cd x y).toInt64) hx hb dX1_codeOf_16 (by rw [toldI, if_neg c_5]) ?_
      refine lv_lstore_n (lv' := [(3, .long ((toldI cd x y).toInt64)), (0, .ref (a)), (1, .int (x)), (2, .int (y))]) hx hb dX1_codeOf_17 rfl hl (by decide) rfl (fun ls hl => ?_)
      refine lv_lload_n hx hb dX1_codeOf_18 rfl (lv_at hl 0 rfl) ?_
      refine lv_lconst (v := lN 0) hx hb dX1_codeOf_19 (by decide) ?_
      refine W.lcmp hx hb dX1_codeOf_20 ?_
      refine lv_if_lt (tgt := 49) hx hb dX1_codeOf_21 (by decide) (fun c_21 => ?_) (fun c_21 => ?_)
      · skip
        have c_21 : ((toldI cd x y).toInt64) < (lN (0)) := (lg_cmp_lt _ _).mp c_21
        obtain ⟨k, hk0, hk, hti, hng⟩ := t_negL c_21
        refine lv_lload_n hx hb dX1_codeOf_49 rfl (lv_at hl 0 rfl) ?_
        refine lv_lneg hx hb dX1_codeOf_50 ?_
        refine tL (y := lN (k)) hng ?_
        refine lv_aload_n hx hb dX1_codeOf_51 rfl (lv_at hl 1 rfl) ?_
        refine rw_X1_18 C h hw dX1_codeOf_52 ?_
        refine lv_lshl (v := lN (k * 2)) hx hb dX1_codeOf_55 (lshN k (s := 1) (by decide)) ?_
        refine lv_lconst (v := lN 1) hx hb dX1_codeOf_56 (by decide) ?_
        refine lv_lsub hx hb dX1_codeOf_57 ?_
        refine tL (lN_sub (by omega)) ?_
        refine lv_lstore (lv' := [(5, .long (lN ((k * 2) - (1)))), (3, .long ((toldI cd x y).toInt64)), (0, .ref (a)), (1, .int (x)), (2, .int (y))]) hx hb dX1_codeOf_58 hl (by decide) rfl (fun ls hl => ?_)
        refine lv_aload_n hx hb dX1_codeOf_60 rfl (lv_at hl 2 rfl) ?_
        refine rw_X1_18 C h hw dX1_codeOf_61 ?_
        refine zN_eq (tgt := 81) (a := 1) C (by decide) dX1_codeOf_64 (by decide) (fun q => absurd q (by decide)) (fun _ => ?_)
        refine lv_lload hx hb dX1_codeOf_67 (lv_at hl 0 rfl) ?_
        refine lv_ldc2 (v := 4294967296) hx hb C.1.2.2.2.1 (C.1.2.2.2.2 _ uk_X1_60) dX1_codeOf_69 ?_
        refine tL (y := lN 4294967296) (by decide) ?_
        refine W.lcmp hx hb dX1_codeOf_72 ?_
        refine lv_if_ge (tgt := 81) hx hb dX1_codeOf_73 (by decide) (fun c_73 => ?_) (fun c_73 => ?_)
        · skip
          have c_73 : (4294967296) ≤ ((k * 2) - (1)) := (pk_lLE (by omega) (by omega)).mp ((lg_cmp_ge _ _).mp c_73)
          refine lv_ldc2 (v := -1) hx hb C.1.2.2.2.1 (C.1.2.2.2.2 _ uk_X1_50) dX1_codeOf_81 ?_
          exact rL C hr hlk h dX1_codeOf_84 (Nat.le_of_ble_eq_true rfl) (Nat.le_of_ble_eq_true rfl) (⟨by rw [cdO_neg (w := 2) (by decide) rfl hti hk0, if_neg (by omega)]; rfl, rfl⟩)
        · skip
          have c_73 : ((k * 2) - (1)) < (4294967296) := Nat.not_le.mp (fun q => c_73 ((lg_cmp_ge _ _).mpr ((pk_lLE (by omega) (by omega)).mpr q)))
          refine lv_lload hx hb dX1_codeOf_76 (lv_at hl 0 rfl) ?_
          refine lv_goto (tgt := 84) hx hb dX1_codeOf_78 (by decide) ?_
          exact rL C hr hlk h dX1_codeOf_84 (Nat.le_of_ble_eq_true rfl) (Nat.le_of_ble_eq_true rfl) (⟨by rw [cdO_neg (w := 2) (by decide) rfl hti hk0, if_pos (by omega)]; show lN _ = lN _; congr 1; omega, rfl⟩)
      · skip
        have c_21 : ¬ ((toldI cd x y).toInt64) < (lN (0)) := fun q => c_21 ((lg_cmp_lt _ _).mpr q)
        obtain ⟨k, hk, ht, hti⟩ := t_posL c_21
        have e3 : (toldI cd x y).toInt64 = lN k := by rw [ht]; exact nI_l (by omega)
        have hl : lv_has ls 7 [(3, .long (lN (k))), (0, .ref (a)), (1, .int (x)), (2, .int (y))] := by rw [e3] at hl; exact hl
        refine lv_aload_n hx hb dX1_codeOf_24 rfl (lv_at hl 1 rfl) ?_
        refine rw_X1_18 C h hw dX1_codeOf_25 ?_
        refine zN_ne (tgt := 35) (a := 1) C (by decide) dX1_codeOf_28 (by decide) (fun _ => ?_) (fun q => absurd q (by decide))
        refine lv_lload_n hx hb dX1_codeOf_35 rfl (lv_at hl 0 rfl) ?_
        refine lv_lload_n hx hb dX1_codeOf_36 rfl (lv_at hl 0 rfl) ?_
        refine lv_iconst (v := nI (1)) hx hb dX1_codeOf_37 (by decide) ?_
        refine lv_aload_n hx hb dX1_codeOf_38 rfl (lv_at hl 1 rfl) ?_
        refine rw_X1_18 C h hw dX1_codeOf_39 ?_
        refine lv_ishl hx hb dX1_codeOf_42 ?_
        refine tI (y := nI (2)) (by decide) ?_
        refine lv_iconst (v := nI (1)) hx hb dX1_codeOf_43 (by decide) ?_
        refine lv_isub hx hb dX1_codeOf_44 ?_
        refine tI (y := nI (1)) (by decide) ?_
        refine lv_i2l (v := lN (1)) hx hb dX1_codeOf_45 (nI_l (by omega)) ?_
        refine lv_ldiv hx hb dX1_codeOf_46 (lN_ne0 (by omega) (by omega)) ?_
        refine tL (pk_lDiv (by omega) (by omega) (by omega)) ?_
        refine lv_ladd hx hb dX1_codeOf_47 ?_
        refine tL (lN_add _ _) ?_
        exact rL C hr hlk h dX1_codeOf_48 (Nat.le_of_ble_eq_true rfl) (Nat.le_of_ble_eq_true rfl) (⟨by rw [cdO_pos hti]; rfl, rfl⟩)
    · skip
      refine lv_iload_n hx hb dX1_codeOf_8 rfl (lv_at hl 1 rfl) ?_
      refine lv_iload_n hx hb dX1_codeOf_9 rfl (lv_at hl 2 rfl) ?_
      refine lv_isub hx hb dX1_codeOf_10 ?_
      refine lv_i2l (v := (toldI cd x y).toInt64) hx hb dX1_codeOf_11 (by rw [toldI, if_pos c_5]) ?_
      refine lv_goto (tgt := 17) hx hb dX1_codeOf_12 (by decide) ?_
      refine lv_lstore_n (lv' := [(3, .long ((toldI cd x y).toInt64)), (0, .ref (a)), (1, .int (x)), (2, .int (y))]) hx hb dX1_codeOf_17 rfl hl (by decide) rfl (fun ls hl => ?_)
      refine lv_lload_n hx hb dX1_codeOf_18 rfl (lv_at hl 0 rfl) ?_
      refine lv_lconst (v := lN 0) hx hb dX1_codeOf_19 (by decide) ?_
      refine W.lcmp hx hb dX1_codeOf_20 ?_
      refine lv_if_lt (tgt := 49) hx hb dX1_codeOf_21 (by decide) (fun c_21 => ?_) (fun c_21 => ?_)
      · skip
        have c_21 : ((toldI cd x y).toInt64) < (lN (0)) := (lg_cmp_lt _ _).mp c_21
        obtain ⟨k, hk0, hk, hti, hng⟩ := t_negL c_21
        refine lv_lload_n hx hb dX1_codeOf_49 rfl (lv_at hl 0 rfl) ?_
        refine lv_lneg hx hb dX1_codeOf_50 ?_
        refine tL (y := lN (k)) hng ?_
        refine lv_aload_n hx hb dX1_codeOf_51 rfl (lv_at hl 1 rfl) ?_
        refine rw_X1_18 C h hw dX1_codeOf_52 ?_
        refine lv_lshl (v := lN (k * 2)) hx hb dX1_codeOf_55 (lshN k (s := 1) (by decide)) ?_
        refine lv_lconst (v := lN 1) hx hb dX1_codeOf_56 (by decide) ?_
        refine lv_lsub hx hb dX1_codeOf_57 ?_
        refine tL (lN_sub (by omega)) ?_
        refine lv_lstore (lv' := [(5, .long (lN ((k * 2) - (1)))), (3, .long ((toldI cd x y).toInt64)), (0, .ref (a)), (1, .int (x)), (2, .int (y))]) hx hb dX1_codeOf_58 hl (by decide) rfl (fun ls hl => ?_)
        refine lv_aload_n hx hb dX1_codeOf_60 rfl (lv_at hl 2 rfl) ?_
        refine rw_X1_18 C h hw dX1_codeOf_61 ?_
        refine zN_eq (tgt := 81) (a := 1) C (by decide) dX1_codeOf_64 (by decide) (fun q => absurd q (by decide)) (fun _ => ?_)
        refine lv_lload hx hb dX1_codeOf_67 (lv_at hl 0 rfl) ?_
        refine lv_ldc2 (v := 4294967296) hx hb C.1.2.2.2.1 (C.1.2.2.2.2 _ uk_X1_60) dX1_codeOf_69 ?_
        refine tL (y := lN 4294967296) (by decide) ?_
        refine W.lcmp hx hb dX1_codeOf_72 ?_
        refine lv_if_ge (tgt := 81) hx hb dX1_codeOf_73 (by decide) (fun c_73 => ?_) (fun c_73 => ?_)
        · skip
          have c_73 : (4294967296) ≤ ((k * 2) - (1)) := (pk_lLE (by omega) (by omega)).mp ((lg_cmp_ge _ _).mp c_73)
          refine lv_ldc2 (v := -1) hx hb C.1.2.2.2.1 (C.1.2.2.2.2 _ uk_X1_50) dX1_codeOf_81 ?_
          exact rL C hr hlk h dX1_codeOf_84 (Nat.le_of_ble_eq_true rfl) (Nat.le_of_ble_eq_true rfl) (⟨by rw [cdO_neg (w := 2) (by decide) rfl hti hk0, if_neg (by omega)]; rfl, rfl⟩)
        · skip
          have c_73 : ((k * 2) - (1)) < (4294967296) := Nat.not_le.mp (fun q => c_73 ((lg_cmp_ge _ _).mpr ((pk_lLE (by omega) (by omega)).mpr q)))
          refine lv_lload hx hb dX1_codeOf_76 (lv_at hl 0 rfl) ?_
          refine lv_goto (tgt := 84) hx hb dX1_codeOf_78 (by decide) ?_
          exact rL C hr hlk h dX1_codeOf_84 (Nat.le_of_ble_eq_true rfl) (Nat.le_of_ble_eq_true rfl) (⟨by rw [cdO_neg (w := 2) (by decide) rfl hti hk0, if_pos (by omega)]; show lN _ = lN _; congr 1; omega, rfl⟩)
      · skip
        have c_21 : ¬ ((toldI cd x y).toInt64) < (lN (0)) := fun q => c_21 ((lg_cmp_lt _ _).mpr q)
        obtain ⟨k, hk, ht, hti⟩ := t_posL c_21
        have e3 : (toldI cd x y).toInt64 = lN k := by rw [ht]; exact nI_l (by omega)
        have hl : lv_has ls 7 [(3, .long (lN (k))), (0, .ref (a)), (1, .int (x)), (2, .int (y))] := by rw [e3] at hl; exact hl
        refine lv_aload_n hx hb dX1_codeOf_24 rfl (lv_at hl 1 rfl) ?_
        refine rw_X1_18 C h hw dX1_codeOf_25 ?_
        refine zN_ne (tgt := 35) (a := 1) C (by decide) dX1_codeOf_28 (by decide) (fun _ => ?_) (fun q => absurd q (by decide))
        refine lv_lload_n hx hb dX1_codeOf_35 rfl (lv_at hl 0 rfl) ?_
        refine lv_lload_n hx hb dX1_codeOf_36 rfl (lv_at hl 0 rfl) ?_
        refine lv_iconst (v := nI (1)) hx hb dX1_codeOf_37 (by decide) ?_
        refine lv_aload_n hx hb dX1_codeOf_38 rfl (lv_at hl 1 rfl) ?_
        refine rw_X1_18 C h hw dX1_codeOf_39 ?_
        refine lv_ishl hx hb dX1_codeOf_42 ?_
        refine tI (y := nI (2)) (by decide) ?_
        refine lv_iconst (v := nI (1)) hx hb dX1_codeOf_43 (by decide) ?_
        refine lv_isub hx hb dX1_codeOf_44 ?_
        refine tI (y := nI (1)) (by decide) ?_
        refine lv_i2l (v := lN (1)) hx hb dX1_codeOf_45 (nI_l (by omega)) ?_
        refine lv_ldiv hx hb dX1_codeOf_46 (lN_ne0 (by omega) (by omega)) ?_
        refine tL (pk_lDiv (by omega) (by omega) (by omega)) ?_
        refine lv_ladd hx hb dX1_codeOf_47 ?_
        refine tL (lN_add _ _) ?_
        exact rL C hr hlk h dX1_codeOf_48 (Nat.le_of_ble_eq_true rfl) (Nat.le_of_ble_eq_true rfl) (⟨by rw [cdO_pos hti]; rfl, rfl⟩)
  · skip
    refine lv_aload_n hx hb dX1_codeOf_0 rfl (lv_at hl 0 rfl) ?_
    refine rw_X1_21 C h hw dX1_codeOf_1 ?_
    refine lv_iconst (v := nI (1)) hx hb dX1_codeOf_4 (by decide) ?_
    refine jN_ne (tgt := 15) (a := cd) (b := 1) C (by omega) (by omega) dX1_codeOf_5 (by decide) (fun c_5 => ?_) (fun c_5 => ?_)
    · skip
      refine lv_iload_n hx hb dX1_codeOf_15 rfl (lv_at hl 1 rfl) ?_
      refine lv_i2l (v := (toldI cd x y).toInt64) hx hb dX1_codeOf_16 (by rw [toldI, if_neg c_5]) ?_
      refine lv_lstore_n (lv' := [(3, .long ((toldI cd x y).toInt64)), (0, .ref (a)), (1, .int (x)), (2, .int (y))]) hx hb dX1_codeOf_17 rfl hl (by decide) rfl (fun ls hl => ?_)
      refine lv_lload_n hx hb dX1_codeOf_18 rfl (lv_at hl 0 rfl) ?_
      refine lv_lconst (v := lN 0) hx hb dX1_codeOf_19 (by decide) ?_
      refine W.lcmp hx hb dX1_codeOf_20 ?_
      refine lv_if_lt (tgt := 49) hx hb dX1_codeOf_21 (by decide) (fun c_21 => ?_) (fun c_21 => ?_)
      · skip
        have c_21 : ((toldI cd x y).toInt64) < (lN (0)) := (lg_cmp_lt _ _).mp c_21
        obtain ⟨k, hk0, hk, hti, hng⟩ := t_negL c_21
        refine lv_lload_n hx hb dX1_codeOf_49 rfl (lv_at hl 0 rfl) ?_
        refine lv_lneg hx hb dX1_codeOf_50 ?_
        refine tL (y := lN (k)) hng ?_
        refine lv_aload_n hx hb dX1_codeOf_51 rfl (lv_at hl 1 rfl) ?_
        refine rw_X1_18 C h hw dX1_codeOf_52 ?_
        refine lv_lshl (v := lN (k * 4)) hx hb dX1_codeOf_55 (lshN k (s := 2) (by decide)) ?_
        refine lv_lconst (v := lN 1) hx hb dX1_codeOf_56 (by decide) ?_
        refine lv_lsub hx hb dX1_codeOf_57 ?_
        refine tL (lN_sub (by omega)) ?_
        refine lv_lstore (lv' := [(5, .long (lN ((k * 4) - (1)))), (3, .long ((toldI cd x y).toInt64)), (0, .ref (a)), (1, .int (x)), (2, .int (y))]) hx hb dX1_codeOf_58 hl (by decide) rfl (fun ls hl => ?_)
        refine lv_aload_n hx hb dX1_codeOf_60 rfl (lv_at hl 2 rfl) ?_
        refine rw_X1_18 C h hw dX1_codeOf_61 ?_
        refine zN_eq (tgt := 81) (a := 2) C (by decide) dX1_codeOf_64 (by decide) (fun q => absurd q (by decide)) (fun _ => ?_)
        refine lv_lload hx hb dX1_codeOf_67 (lv_at hl 0 rfl) ?_
        refine lv_ldc2 (v := 4294967296) hx hb C.1.2.2.2.1 (C.1.2.2.2.2 _ uk_X1_60) dX1_codeOf_69 ?_
        refine tL (y := lN 4294967296) (by decide) ?_
        refine W.lcmp hx hb dX1_codeOf_72 ?_
        refine lv_if_ge (tgt := 81) hx hb dX1_codeOf_73 (by decide) (fun c_73 => ?_) (fun c_73 => ?_)
        · skip
          have c_73 : (4294967296) ≤ ((k * 4) - (1)) := (pk_lLE (by omega) (by omega)).mp ((lg_cmp_ge _ _).mp c_73)
          refine lv_ldc2 (v := -1) hx hb C.1.2.2.2.1 (C.1.2.2.2.2 _ uk_X1_50) dX1_codeOf_81 ?_
          exact rL C hr hlk h dX1_codeOf_84 (Nat.le_of_ble_eq_true rfl) (Nat.le_of_ble_eq_true rfl) (⟨by rw [cdO_neg (w := 4) (by decide) rfl hti hk0, if_neg (by omega)]; rfl, rfl⟩)
        · skip
          have c_73 : ((k * 4) - (1)) < (4294967296) := Nat.not_le.mp (fun q => c_73 ((lg_cmp_ge _ _).mpr ((pk_lLE (by omega) (by omega)).mpr q)))
          refine lv_lload hx hb dX1_codeOf_76 (lv_at hl 0 rfl) ?_
          refine lv_goto (tgt := 84) hx hb dX1_codeOf_78 (by decide) ?_
          exact rL C hr hlk h dX1_codeOf_84 (Nat.le_of_ble_eq_true rfl) (Nat.le_of_ble_eq_true rfl) (⟨by rw [cdO_neg (w := 4) (by decide) rfl hti hk0, if_pos (by omega)]; show lN _ = lN _; congr 1; omega, rfl⟩)
      · skip
        have c_21 : ¬ ((toldI cd x y).toInt64) < (lN (0)) := fun q => c_21 ((lg_cmp_lt _ _).mpr q)
        obtain ⟨k, hk, ht, hti⟩ := t_posL c_21
        have e3 : (toldI cd x y).toInt64 = lN k := by rw [ht]; exact nI_l (by omega)
        have hl : lv_has ls 7 [(3, .long (lN (k))), (0, .ref (a)), (1, .int (x)), (2, .int (y))] := by rw [e3] at hl; exact hl
        refine lv_aload_n hx hb dX1_codeOf_24 rfl (lv_at hl 1 rfl) ?_
        refine rw_X1_18 C h hw dX1_codeOf_25 ?_
        refine zN_ne (tgt := 35) (a := 2) C (by decide) dX1_codeOf_28 (by decide) (fun _ => ?_) (fun q => absurd q (by decide))
        refine lv_lload_n hx hb dX1_codeOf_35 rfl (lv_at hl 0 rfl) ?_
        refine lv_lload_n hx hb dX1_codeOf_36 rfl (lv_at hl 0 rfl) ?_
        refine lv_iconst (v := nI (1)) hx hb dX1_codeOf_37 (by decide) ?_
        refine lv_aload_n hx hb dX1_codeOf_38 rfl (lv_at hl 1 rfl) ?_
        refine rw_X1_18 C h hw dX1_codeOf_39 ?_
        refine lv_ishl hx hb dX1_codeOf_42 ?_
        refine tI (y := nI (4)) (by decide) ?_
        refine lv_iconst (v := nI (1)) hx hb dX1_codeOf_43 (by decide) ?_
        refine lv_isub hx hb dX1_codeOf_44 ?_
        refine tI (y := nI (3)) (by decide) ?_
        refine lv_i2l (v := lN (3)) hx hb dX1_codeOf_45 (nI_l (by omega)) ?_
        refine lv_ldiv hx hb dX1_codeOf_46 (lN_ne0 (by omega) (by omega)) ?_
        refine tL (pk_lDiv (by omega) (by omega) (by omega)) ?_
        refine lv_ladd hx hb dX1_codeOf_47 ?_
        refine tL (lN_add _ _) ?_
        exact rL C hr hlk h dX1_codeOf_48 (Nat.le_of_ble_eq_true rfl) (Nat.le_of_ble_eq_true rfl) (⟨by rw [cdO_pos hti]; rfl, rfl⟩)
    · skip
      refine lv_iload_n hx hb dX1_codeOf_8 rfl (lv_at hl 1 rfl) ?_
      refine lv_iload_n hx hb dX1_codeOf_9 rfl (lv_at hl 2 rfl) ?_
      refine lv_isub hx hb dX1_codeOf_10 ?_
      refine lv_i2l (v := (toldI cd x y).toInt64) hx hb dX1_codeOf_11 (by rw [toldI, if_pos c_5]) ?_
      refine lv_goto (tgt := 17) hx hb dX1_codeOf_12 (by decide) ?_
      refine lv_lstore_n (lv' := [(3, .long ((toldI cd x y).toInt64)), (0, .ref (a)), (1, .int (x)), (2, .int (y))]) hx hb dX1_codeOf_17 rfl hl (by decide) rfl (fun ls hl => ?_)
      refine lv_lload_n hx hb dX1_codeOf_18 rfl (lv_at hl 0 rfl) ?_
      refine lv_lconst (v := lN 0) hx hb dX1_codeOf_19 (by decide) ?_
      refine W.lcmp hx hb dX1_codeOf_20 ?_
      refine lv_if_lt (tgt := 49) hx hb dX1_codeOf_21 (by decide) (fun c_21 => ?_) (fun c_21 => ?_)
      · skip
        have c_21 : ((toldI cd x y).toInt64) < (lN (0)) := (lg_cmp_lt _ _).mp c_21
        obtain ⟨k, hk0, hk, hti, hng⟩ := t_negL c_21
        refine lv_lload_n hx hb dX1_codeOf_49 rfl (lv_at hl 0 rfl) ?_
        refine lv_lneg hx hb dX1_codeOf_50 ?_
        refine tL (y := lN (k)) hng ?_
        refine lv_aload_n hx hb dX1_codeOf_51 rfl (lv_at hl 1 rfl) ?_
        refine rw_X1_18 C h hw dX1_codeOf_52 ?_
        refine lv_lshl (v := lN (k * 4)) hx hb dX1_codeOf_55 (lshN k (s := 2) (by decide)) ?_
        refine lv_lconst (v := lN 1) hx hb dX1_codeOf_56 (by decide) ?_
        refine lv_lsub hx hb dX1_codeOf_57 ?_
        refine tL (lN_sub (by omega)) ?_
        refine lv_lstore (lv' := [(5, .long (lN ((k * 4) - (1)))), (3, .long ((toldI cd x y).toInt64)), (0, .ref (a)), (1, .int (x)), (2, .int (y))]) hx hb dX1_codeOf_58 hl (by decide) rfl (fun ls hl => ?_)
        refine lv_aload_n hx hb dX1_codeOf_60 rfl (lv_at hl 2 rfl) ?_
        refine rw_X1_18 C h hw dX1_codeOf_61 ?_
        refine zN_eq (tgt := 81) (a := 2) C (by decide) dX1_codeOf_64 (by decide) (fun q => absurd q (by decide)) (fun _ => ?_)
        refine lv_lload hx hb dX1_codeOf_67 (lv_at hl 0 rfl) ?_
        refine lv_ldc2 (v := 4294967296) hx hb C.1.2.2.2.1 (C.1.2.2.2.2 _ uk_X1_60) dX1_codeOf_69 ?_
        refine tL (y := lN 4294967296) (by decide) ?_
        refine W.lcmp hx hb dX1_codeOf_72 ?_
        refine lv_if_ge (tgt := 81) hx hb dX1_codeOf_73 (by decide) (fun c_73 => ?_) (fun c_73 => ?_)
        · skip
          have c_73 : (4294967296) ≤ ((k * 4) - (1)) := (pk_lLE (by omega) (by omega)).mp ((lg_cmp_ge _ _).mp c_73)
          refine lv_ldc2 (v := -1) hx hb C.1.2.2.2.1 (C.1.2.2.2.2 _ uk_X1_50) dX1_codeOf_81 ?_
          exact rL C hr hlk h dX1_codeOf_84 (Nat.le_of_ble_eq_true rfl) (Nat.le_of_ble_eq_true rfl) (⟨by rw [cdO_neg (w := 4) (by decide) rfl hti hk0, if_neg (by omega)]; rfl, rfl⟩)
        · skip
          have c_73 : ((k * 4) - (1)) < (4294967296) := Nat.not_le.mp (fun q => c_73 ((lg_cmp_ge _ _).mpr ((pk_lLE (by omega) (by omega)).mpr q)))
          refine lv_lload hx hb dX1_codeOf_76 (lv_at hl 0 rfl) ?_
          refine lv_goto (tgt := 84) hx hb dX1_codeOf_78 (by decide) ?_
          exact rL C hr hlk h dX1_codeOf_84 (Nat.le_of_ble_eq_true rfl) (Nat.le_of_ble_eq_true rfl) (⟨by rw [cdO_neg (w := 4) (by decide) rfl hti hk0, if_pos (by omega)]; show lN _ = lN _; congr 1; omega, rfl⟩)
      · skip
        have c_21 : ¬ ((toldI cd x y).toInt64) < (lN (0)) := fun q => c_21 ((lg_cmp_lt _ _).mpr q)
        obtain ⟨k, hk, ht, hti⟩ := t_posL c_21
        have e3 : (toldI cd x y).toInt64 = lN k := by rw [ht]; exact nI_l (by omega)
        have hl : lv_has ls 7 [(3, .long (lN (k))), (0, .ref (a)), (1, .int (x)), (2, .int (y))] := by rw [e3] at hl; exact hl
        refine lv_aload_n hx hb dX1_codeOf_24 rfl (lv_at hl 1 rfl) ?_
        refine rw_X1_18 C h hw dX1_codeOf_25 ?_
        refine zN_ne (tgt := 35) (a := 2) C (by decide) dX1_codeOf_28 (by decide) (fun _ => ?_) (fun q => absurd q (by decide))
        refine lv_lload_n hx hb dX1_codeOf_35 rfl (lv_at hl 0 rfl) ?_
        refine lv_lload_n hx hb dX1_codeOf_36 rfl (lv_at hl 0 rfl) ?_
        refine lv_iconst (v := nI (1)) hx hb dX1_codeOf_37 (by decide) ?_
        refine lv_aload_n hx hb dX1_codeOf_38 rfl (lv_at hl 1 rfl) ?_
        refine rw_X1_18 C h hw dX1_codeOf_39 ?_
        refine lv_ishl hx hb dX1_codeOf_42 ?_
        refine tI (y := nI (4)) (by decide) ?_
        refine lv_iconst (v := nI (1)) hx hb dX1_codeOf_43 (by decide) ?_
        refine lv_isub hx hb dX1_codeOf_44 ?_
        refine tI (y := nI (3)) (by decide) ?_
        refine lv_i2l (v := lN (3)) hx hb dX1_codeOf_45 (nI_l (by omega)) ?_
        refine lv_ldiv hx hb dX1_codeOf_46 (lN_ne0 (by omega) (by omega)) ?_
        refine tL (pk_lDiv (by omega) (by omega) (by omega)) ?_
        refine lv_ladd hx hb dX1_codeOf_47 ?_
        refine tL (lN_add _ _) ?_
        exact rL C hr hlk h dX1_codeOf_48 (Nat.le_of_ble_eq_true rfl) (Nat.le_of_ble_eq_true rfl) (⟨by rw [cdO_pos hti]; rfl, rfl⟩)
theorem nL_pos {n : Nat} (h : n < 2 ^ 63) : Int64.ofInt (n : Int) = lN n := by
  apply Int64.toInt_inj.mp
  rw [pk_lT h, Int64.toInt_ofInt, Int.bmod_def, show ((Int64.size : Nat) : Int) = 18446744073709551616 from rfl]
  omega
theorem nL_neg {k : Nat} (h : k < 2 ^ 62) : Int64.ofInt (-(k : Int)) = -(lN k) := by
  apply Int64.toInt_inj.mp
  rw [Int64.toInt_neg, pk_lT (by omega), Int64.toInt_ofInt]
theorem enc_one {h c : Nat} : enc 1 h c = if c < 256 then some [c] else none := rfl
theorem enc_last {m h c : Nat} (hm : 2 ≤ m) (hc : c < 256 - h) : enc m h c = some [c] := by
  obtain ⟨k, rfl⟩ : ∃ k, m = k + 2 := ⟨m - 2, by omega⟩
  unfold enc
  rw [if_pos hc]
theorem enc_step {m h c : Nat} (hm : 2 ≤ m) (hc : 256 - h ≤ c) : enc m h c = (enc (m - 1) h ((c - (256 - h)) / h)).map (fun t => (256 - h + (c - (256 - h)) % h) :: t) := by
  obtain ⟨k, rfl⟩ : ∃ k, m = k + 2 := ⟨m - 2, by omega⟩
  rw [show k + 2 - 1 = k + 1 by omega]
  conv => lhs; unfold enc
  rw [if_neg (by omega)]
theorem uk_X1_71 : Cond.constantLong RX1 71 (2147483648) ∈ uW := uW_of (by decide +kernel) rfl
set_option maxHeartbeats 4000000 in
set_option maxRecDepth 100000 in
/-- Coding.numberOf -/
theorem k_numberOf (l : Launch) (z : bZ) (v : bV) (sc : Nat → Int32) (ar : Nat → Nat → Int32) (a cb ch cs cd k : Nat) (hw : cdW v a cb ch cs cd) (hk : k < 2 ^ 60) : Met l yX1_numberOf (Cond.code yX1_numberOf cX1_numberOf 6 (some .long) :: uW) { frames := 0, cells := 0, slots := 0, locals := 0 } (pC z v sc ar [.ref (a), .long (lN (k))]) (qL z (fun r u => r = nL64 (nbO cs k) ∧ u = (v, sc, ar))) 0 0 (zA z) := by
  refine eM (by decide) (Nat.le_of_ble_eq_true rfl) ?_
  intro pP eE s mM below meth cC ls C hr hlk h hl
  have hx := C.1.1
  have hb := C.1.2.1
  have hl : lv_has ls 6 [(0, .ref (a)), (1, .long (lN (k)))] := hl
  obtain ⟨-, -, ⟨hB1, hB5⟩, ⟨hH1, hH2⟩, hS, hD⟩ := id hw
  rcases (show cs = 0 ∨ cs = 1 ∨ cs = 2 by omega) with rfl | rfl | rfl
  · skip
    refine lv_lload_n hx hb dX1_numberOf_0 rfl (lv_at hl 1 rfl) ?_
    refine lv_ldc2 (v := 4294967296) hx hb C.1.2.2.2.1 (C.1.2.2.2.2 _ uk_X1_60) dX1_numberOf_1 ?_
    refine tL (y := lN 4294967296) (by decide) ?_
    refine W.lcmp hx hb dX1_numberOf_4 ?_
    refine lv_if_lt (tgt := 12) hx hb dX1_numberOf_5 (by decide) (fun c_5 => ?_) (fun c_5 => ?_)
    · skip
      have c_5 : (k) < (4294967296) := (pk_lLT (by omega) (by omega)).mp ((lg_cmp_lt _ _).mp c_5)
      refine lv_aload_n hx hb dX1_numberOf_12 rfl (lv_at hl 0 rfl) ?_
      refine rw_X1_18 C h hw dX1_numberOf_13 ?_
      refine zN_eq (tgt := 39) (a := 0) C (by decide) dX1_numberOf_16 (by decide) (fun _ => ?_) (fun q => absurd q (by decide))
      refine lv_iconst (v := nI (0)) hx hb dX1_numberOf_39 (by decide) ?_
      refine lv_istore_n (lv' := [(3, .int (nI (0))), (0, .ref (a)), (1, .long (lN (k)))]) hx hb dX1_numberOf_40 rfl hl (by decide) rfl (fun ls hl => ?_)
      refine lv_iload_n hx hb dX1_numberOf_41 rfl (lv_at hl 0 rfl) ?_
      refine zN_eq (tgt := 55) (a := 0) C (by decide) dX1_numberOf_42 (by decide) (fun _ => ?_) (fun q => absurd q (by decide))
      refine lv_aload_n hx hb dX1_numberOf_55 rfl (lv_at hl 1 rfl) ?_
      refine rw_X1_18 C h hw dX1_numberOf_56 ?_
      refine zN_ne (tgt := 66) (a := 0) C (by decide) dX1_numberOf_59 (by decide) (fun q => absurd q (by decide)) (fun _ => ?_)
      refine lv_lload_n hx hb dX1_numberOf_62 rfl (lv_at hl 2 rfl) ?_
      refine lv_goto (tgt := 74) hx hb dX1_numberOf_63 (by decide) ?_
      refine lv_lstore (lv' := [(4, .long (lN (k))), (3, .int (nI (0))), (0, .ref (a)), (1, .long (lN (k)))]) hx hb dX1_numberOf_74 hl (by decide) rfl (fun ls hl => ?_)
      refine lv_lload hx hb dX1_numberOf_76 (lv_at hl 0 rfl) ?_
      refine lv_ldc2 (v := 2147483648) hx hb C.1.2.2.2.1 (C.1.2.2.2.2 _ uk_X1_71) dX1_numberOf_78 ?_
      refine tL (y := lN 2147483648) (by decide) ?_
      refine W.lcmp hx hb dX1_numberOf_81 ?_
      refine lv_if_ge (tgt := 90) hx hb dX1_numberOf_82 (by decide) (fun c_82 => ?_) (fun c_82 => ?_)
      · skip
        have c_82 : (2147483648) ≤ (k) := (pk_lLE (by omega) (by omega)).mp ((lg_cmp_ge _ _).mp c_82)
        refine lv_ldc2 (v := 4294967296) hx hb C.1.2.2.2.1 (C.1.2.2.2.2 _ uk_X1_60) dX1_numberOf_90 ?_
        refine tL (y := lN 4294967296) (by decide) ?_
        exact rL C hr hlk h dX1_numberOf_93 (Nat.le_of_ble_eq_true rfl) (Nat.le_of_ble_eq_true rfl) (⟨by unfold nbO; rw [if_neg (by omega), if_neg (fun q => q.1 rfl), if_pos (rfl : (0 : Nat) = 0), if_neg (by omega)]; rfl, rfl⟩)
      · skip
        have c_82 : (k) < (2147483648) := Nat.not_le.mp (fun q => c_82 ((lg_cmp_ge _ _).mpr ((pk_lLE (by omega) (by omega)).mpr q)))
        refine lv_lload hx hb dX1_numberOf_85 (lv_at hl 0 rfl) ?_
        refine lv_goto (tgt := 93) hx hb dX1_numberOf_87 (by decide) ?_
        exact rL C hr hlk h dX1_numberOf_93 (Nat.le_of_ble_eq_true rfl) (Nat.le_of_ble_eq_true rfl) (⟨by unfold nbO; rw [if_neg (by omega), if_neg (fun q => q.1 rfl), if_pos (rfl : (0 : Nat) = 0), if_pos (by omega)]; exact (nL_pos (by omega)).symm, rfl⟩)
    · skip
      have c_5 : (4294967296) ≤ (k) := Nat.not_lt.mp (fun q => c_5 ((lg_cmp_lt _ _).mpr ((pk_lLT (by omega) (by omega)).mpr q)))
      refine lv_ldc2 (v := 4294967296) hx hb C.1.2.2.2.1 (C.1.2.2.2.2 _ uk_X1_60) dX1_numberOf_8 ?_
      refine tL (y := lN 4294967296) (by decide) ?_
      exact rL C hr hlk h dX1_numberOf_11 (Nat.le_of_ble_eq_true rfl) (Nat.le_of_ble_eq_true rfl) (⟨by unfold nbO; rw [if_pos c_5]; rfl, rfl⟩)
  · skip
    refine lv_lload_n hx hb dX1_numberOf_0 rfl (lv_at hl 1 rfl) ?_
    refine lv_ldc2 (v := 4294967296) hx hb C.1.2.2.2.1 (C.1.2.2.2.2 _ uk_X1_60) dX1_numberOf_1 ?_
    refine tL (y := lN 4294967296) (by decide) ?_
    refine W.lcmp hx hb dX1_numberOf_4 ?_
    refine lv_if_lt (tgt := 12) hx hb dX1_numberOf_5 (by decide) (fun c_5 => ?_) (fun c_5 => ?_)
    · skip
      have c_5 : (k) < (4294967296) := (pk_lLT (by omega) (by omega)).mp ((lg_cmp_lt _ _).mp c_5)
      refine lv_aload_n hx hb dX1_numberOf_12 rfl (lv_at hl 0 rfl) ?_
      refine rw_X1_18 C h hw dX1_numberOf_13 ?_
      refine zN_eq (tgt := 39) (a := 1) C (by decide) dX1_numberOf_16 (by decide) (fun q => absurd q (by decide)) (fun _ => ?_)
      refine lv_lload_n hx hb dX1_numberOf_19 rfl (lv_at hl 1 rfl) ?_
      refine lv_lconst (v := lN 1) hx hb dX1_numberOf_20 (by decide) ?_
      refine lv_ladd hx hb dX1_numberOf_21 ?_
      refine tL (lN_add _ _) ?_
      refine lv_iconst (v := nI (1)) hx hb dX1_numberOf_22 (by decide) ?_
      refine lv_aload_n hx hb dX1_numberOf_23 rfl (lv_at hl 0 rfl) ?_
      refine rw_X1_18 C h hw dX1_numberOf_24 ?_
      refine lv_ishl hx hb dX1_numberOf_27 ?_
      refine tI (y := nI (2)) (by decide) ?_
      refine lv_i2l (v := lN (2)) hx hb dX1_numberOf_28 (nI_l (by omega)) ?_
      refine lv_lrem hx hb dX1_numberOf_29 (lN_ne0 (by omega) (by omega)) ?_
      refine tL (pk_lRem (by omega) (by omega) (by omega)) ?_
      refine lv_lconst (v := lN 0) hx hb dX1_numberOf_30 (by decide) ?_
      refine W.lcmp hx hb dX1_numberOf_31 ?_
      refine lv_if_ne (tgt := 39) hx hb dX1_numberOf_32 (by decide) (fun c_32 => ?_) (fun c_32 => ?_)
      · skip
        have c_32 : ¬ (((k) + (1)) % (2)) = (0) := fun q => c_32 ((lg_cmp_eq _ _).mpr ((pk_lEQ (by omega) (by omega)).mpr q))
        refine lv_iconst (v := nI (0)) hx hb dX1_numberOf_39 (by decide) ?_
        refine lv_istore_n (lv' := [(3, .int (nI (0))), (0, .ref (a)), (1, .long (lN (k)))]) hx hb dX1_numberOf_40 rfl hl (by decide) rfl (fun ls hl => ?_)
        refine lv_iload_n hx hb dX1_numberOf_41 rfl (lv_at hl 0 rfl) ?_
        refine zN_eq (tgt := 55) (a := 0) C (by decide) dX1_numberOf_42 (by decide) (fun _ => ?_) (fun q => absurd q (by decide))
        refine lv_aload_n hx hb dX1_numberOf_55 rfl (lv_at hl 1 rfl) ?_
        refine rw_X1_18 C h hw dX1_numberOf_56 ?_
        refine zN_ne (tgt := 66) (a := 1) C (by decide) dX1_numberOf_59 (by decide) (fun _ => ?_) (fun q => absurd q (by decide))
        refine lv_lload_n hx hb dX1_numberOf_66 rfl (lv_at hl 2 rfl) ?_
        refine lv_lload_n hx hb dX1_numberOf_67 rfl (lv_at hl 2 rfl) ?_
        refine lv_aload_n hx hb dX1_numberOf_68 rfl (lv_at hl 1 rfl) ?_
        refine rw_X1_18 C h hw dX1_numberOf_69 ?_
        refine lv_lshr (v := lN (k / 2)) hx hb dX1_numberOf_72 (lsrN (k := k) (by omega) (s := 1) (by decide)) ?_
        refine lv_lsub hx hb dX1_numberOf_73 ?_
        refine tL (lN_sub (by omega)) ?_
        refine lv_lstore (lv' := [(4, .long (lN ((k) - (k / 2)))), (3, .int (nI (0))), (0, .ref (a)), (1, .long (lN (k)))]) hx hb dX1_numberOf_74 hl (by decide) rfl (fun ls hl => ?_)
        refine lv_lload hx hb dX1_numberOf_76 (lv_at hl 0 rfl) ?_
        refine lv_ldc2 (v := 2147483648) hx hb C.1.2.2.2.1 (C.1.2.2.2.2 _ uk_X1_71) dX1_numberOf_78 ?_
        refine tL (y := lN 2147483648) (by decide) ?_
        refine W.lcmp hx hb dX1_numberOf_81 ?_
        refine lv_if_ge (tgt := 90) hx hb dX1_numberOf_82 (by decide) (fun c_82 => ?_) (fun c_82 => ?_)
        · skip
          have c_82 : (2147483648) ≤ ((k) - (k / 2)) := (pk_lLE (by omega) (by omega)).mp ((lg_cmp_ge _ _).mp c_82)
          refine lv_ldc2 (v := 4294967296) hx hb C.1.2.2.2.1 (C.1.2.2.2.2 _ uk_X1_60) dX1_numberOf_90 ?_
          refine tL (y := lN 4294967296) (by decide) ?_
          exact rL C hr hlk h dX1_numberOf_93 (Nat.le_of_ble_eq_true rfl) (Nat.le_of_ble_eq_true rfl) (⟨by unfold nbO; rw [if_neg (by omega), if_neg (fun q => c_32 q.2), if_neg (by decide : ¬ (1 : Nat) = 0), if_neg (by omega)]; rfl, rfl⟩)
        · skip
          have c_82 : ((k) - (k / 2)) < (2147483648) := Nat.not_le.mp (fun q => c_82 ((lg_cmp_ge _ _).mpr ((pk_lLE (by omega) (by omega)).mpr q)))
          refine lv_lload hx hb dX1_numberOf_85 (lv_at hl 0 rfl) ?_
          refine lv_goto (tgt := 93) hx hb dX1_numberOf_87 (by decide) ?_
          exact rL C hr hlk h dX1_numberOf_93 (Nat.le_of_ble_eq_true rfl) (Nat.le_of_ble_eq_true rfl) (⟨by unfold nbO; rw [if_neg (by omega), if_neg (fun q => c_32 q.2), if_neg (by decide : ¬ (1 : Nat) = 0), if_pos (by omega)]; exact (nL_pos (by omega)).symm, rfl⟩)
      · skip
        have c_32 : (((k) + (1)) % (2)) = (0) := (pk_lEQ (by omega) (by omega)).mp ((lg_cmp_eq _ _).mp c_32)
        refine lv_iconst (v := nI (1)) hx hb dX1_numberOf_35 (by decide) ?_
        refine lv_goto (tgt := 40) hx hb dX1_numberOf_36 (by decide) ?_
        refine lv_istore_n (lv' := [(3, .int (nI (1))), (0, .ref (a)), (1, .long (lN (k)))]) hx hb dX1_numberOf_40 rfl hl (by decide) rfl (fun ls hl => ?_)
        refine lv_iload_n hx hb dX1_numberOf_41 rfl (lv_at hl 0 rfl) ?_
        refine zN_eq (tgt := 55) (a := 1) C (by decide) dX1_numberOf_42 (by decide) (fun q => absurd q (by decide)) (fun _ => ?_)
        refine lv_lload_n hx hb dX1_numberOf_45 rfl (lv_at hl 2 rfl) ?_
        refine lv_lconst (v := lN 1) hx hb dX1_numberOf_46 (by decide) ?_
        refine lv_ladd hx hb dX1_numberOf_47 ?_
        refine tL (lN_add _ _) ?_
        refine lv_aload_n hx hb dX1_numberOf_48 rfl (lv_at hl 1 rfl) ?_
        refine rw_X1_18 C h hw dX1_numberOf_49 ?_
        refine lv_lshr (v := lN ((k + 1) / 2)) hx hb dX1_numberOf_52 (lsrN (k := k + 1) (by omega) (s := 1) (by decide)) ?_
        refine lv_lneg hx hb dX1_numberOf_53 ?_
        exact rL C hr hlk h dX1_numberOf_54 (Nat.le_of_ble_eq_true rfl) (Nat.le_of_ble_eq_true rfl) (⟨by unfold nbO; rw [if_neg (by omega), if_pos ⟨by decide, c_32⟩]; exact (nL_neg (by omega)).symm, rfl⟩)
    · skip
      have c_5 : (4294967296) ≤ (k) := Nat.not_lt.mp (fun q => c_5 ((lg_cmp_lt _ _).mpr ((pk_lLT (by omega) (by omega)).mpr q)))
      refine lv_ldc2 (v := 4294967296) hx hb C.1.2.2.2.1 (C.1.2.2.2.2 _ uk_X1_60) dX1_numberOf_8 ?_
      refine tL (y := lN 4294967296) (by decide) ?_
      exact rL C hr hlk h dX1_numberOf_11 (Nat.le_of_ble_eq_true rfl) (Nat.le_of_ble_eq_true rfl) (⟨by unfold nbO; rw [if_pos c_5]; rfl, rfl⟩)
  · skip
    refine lv_lload_n hx hb dX1_numberOf_0 rfl (lv_at hl 1 rfl) ?_
    refine lv_ldc2 (v := 4294967296) hx hb C.1.2.2.2.1 (C.1.2.2.2.2 _ uk_X1_60) dX1_numberOf_1 ?_
    refine tL (y := lN 4294967296) (by decide) ?_
    refine W.lcmp hx hb dX1_numberOf_4 ?_
    refine lv_if_lt (tgt := 12) hx hb dX1_numberOf_5 (by decide) (fun c_5 => ?_) (fun c_5 => ?_)
    · skip
      have c_5 : (k) < (4294967296) := (pk_lLT (by omega) (by omega)).mp ((lg_cmp_lt _ _).mp c_5)
      refine lv_aload_n hx hb dX1_numberOf_12 rfl (lv_at hl 0 rfl) ?_
      refine rw_X1_18 C h hw dX1_numberOf_13 ?_
      refine zN_eq (tgt := 39) (a := 2) C (by decide) dX1_numberOf_16 (by decide) (fun q => absurd q (by decide)) (fun _ => ?_)
      refine lv_lload_n hx hb dX1_numberOf_19 rfl (lv_at hl 1 rfl) ?_
      refine lv_lconst (v := lN 1) hx hb dX1_numberOf_20 (by decide) ?_
      refine lv_ladd hx hb dX1_numberOf_21 ?_
      refine tL (lN_add _ _) ?_
      refine lv_iconst (v := nI (1)) hx hb dX1_numberOf_22 (by decide) ?_
      refine lv_aload_n hx hb dX1_numberOf_23 rfl (lv_at hl 0 rfl) ?_
      refine rw_X1_18 C h hw dX1_numberOf_24 ?_
      refine lv_ishl hx hb dX1_numberOf_27 ?_
      refine tI (y := nI (4)) (by decide) ?_
      refine lv_i2l (v := lN (4)) hx hb dX1_numberOf_28 (nI_l (by omega)) ?_
      refine lv_lrem hx hb dX1_numberOf_29 (lN_ne0 (by omega) (by omega)) ?_
      refine tL (pk_lRem (by omega) (by omega) (by omega)) ?_
      refine lv_lconst (v := lN 0) hx hb dX1_numberOf_30 (by decide) ?_
      refine W.lcmp hx hb dX1_numberOf_31 ?_
      refine lv_if_ne (tgt := 39) hx hb dX1_numberOf_32 (by decide) (fun c_32 => ?_) (fun c_32 => ?_)
      · skip
        have c_32 : ¬ (((k) + (1)) % (4)) = (0) := fun q => c_32 ((lg_cmp_eq _ _).mpr ((pk_lEQ (by omega) (by omega)).mpr q))
        refine lv_iconst (v := nI (0)) hx hb dX1_numberOf_39 (by decide) ?_
        refine lv_istore_n (lv' := [(3, .int (nI (0))), (0, .ref (a)), (1, .long (lN (k)))]) hx hb dX1_numberOf_40 rfl hl (by decide) rfl (fun ls hl => ?_)
        refine lv_iload_n hx hb dX1_numberOf_41 rfl (lv_at hl 0 rfl) ?_
        refine zN_eq (tgt := 55) (a := 0) C (by decide) dX1_numberOf_42 (by decide) (fun _ => ?_) (fun q => absurd q (by decide))
        refine lv_aload_n hx hb dX1_numberOf_55 rfl (lv_at hl 1 rfl) ?_
        refine rw_X1_18 C h hw dX1_numberOf_56 ?_
        refine zN_ne (tgt := 66) (a := 2) C (by decide) dX1_numberOf_59 (by decide) (fun _ => ?_) (fun q => absurd q (by decide))
        refine lv_lload_n hx hb dX1_numberOf_66 rfl (lv_at hl 2 rfl) ?_
        refine lv_lload_n hx hb dX1_numberOf_67 rfl (lv_at hl 2 rfl) ?_
        refine lv_aload_n hx hb dX1_numberOf_68 rfl (lv_at hl 1 rfl) ?_
        refine rw_X1_18 C h hw dX1_numberOf_69 ?_
        refine lv_lshr (v := lN (k / 4)) hx hb dX1_numberOf_72 (lsrN (k := k) (by omega) (s := 2) (by decide)) ?_
        refine lv_lsub hx hb dX1_numberOf_73 ?_
        refine tL (lN_sub (by omega)) ?_
        refine lv_lstore (lv' := [(4, .long (lN ((k) - (k / 4)))), (3, .int (nI (0))), (0, .ref (a)), (1, .long (lN (k)))]) hx hb dX1_numberOf_74 hl (by decide) rfl (fun ls hl => ?_)
        refine lv_lload hx hb dX1_numberOf_76 (lv_at hl 0 rfl) ?_
        refine lv_ldc2 (v := 2147483648) hx hb C.1.2.2.2.1 (C.1.2.2.2.2 _ uk_X1_71) dX1_numberOf_78 ?_
        refine tL (y := lN 2147483648) (by decide) ?_
        refine W.lcmp hx hb dX1_numberOf_81 ?_
        refine lv_if_ge (tgt := 90) hx hb dX1_numberOf_82 (by decide) (fun c_82 => ?_) (fun c_82 => ?_)
        · skip
          have c_82 : (2147483648) ≤ ((k) - (k / 4)) := (pk_lLE (by omega) (by omega)).mp ((lg_cmp_ge _ _).mp c_82)
          refine lv_ldc2 (v := 4294967296) hx hb C.1.2.2.2.1 (C.1.2.2.2.2 _ uk_X1_60) dX1_numberOf_90 ?_
          refine tL (y := lN 4294967296) (by decide) ?_
          exact rL C hr hlk h dX1_numberOf_93 (Nat.le_of_ble_eq_true rfl) (Nat.le_of_ble_eq_true rfl) (⟨by unfold nbO; rw [if_neg (by omega), if_neg (fun q => c_32 q.2), if_neg (by decide : ¬ (2 : Nat) = 0), if_neg (by omega)]; rfl, rfl⟩)
        · skip
          have c_82 : ((k) - (k / 4)) < (2147483648) := Nat.not_le.mp (fun q => c_82 ((lg_cmp_ge _ _).mpr ((pk_lLE (by omega) (by omega)).mpr q)))
          refine lv_lload hx hb dX1_numberOf_85 (lv_at hl 0 rfl) ?_
          refine lv_goto (tgt := 93) hx hb dX1_numberOf_87 (by decide) ?_
          exact rL C hr hlk h dX1_numberOf_93 (Nat.le_of_ble_eq_true rfl) (Nat.le_of_ble_eq_true rfl) (⟨by unfold nbO; rw [if_neg (by omega), if_neg (fun q => c_32 q.2), if_neg (by decide : ¬ (2 : Nat) = 0), if_pos (by omega)]; exact (nL_pos (by omega)).symm, rfl⟩)
      · skip
        have c_32 : (((k) + (1)) % (4)) = (0) := (pk_lEQ (by omega) (by omega)).mp ((lg_cmp_eq _ _).mp c_32)
        refine lv_iconst (v := nI (1)) hx hb dX1_numberOf_35 (by decide) ?_
        refine lv_goto (tgt := 40) hx hb dX1_numberOf_36 (by decide) ?_
        refine lv_istore_n (lv' := [(3, .int (nI (1))), (0, .ref (a)), (1, .long (lN (k)))]) hx hb dX1_numberOf_40 rfl hl (by decide) rfl (fun ls hl => ?_)
        refine lv_iload_n hx hb dX1_numberOf_41 rfl (lv_at hl 0 rfl) ?_
        refine zN_eq (tgt := 55) (a := 1) C (by decide) dX1_numberOf_42 (by decide) (fun q => absurd q (by decide)) (fun _ => ?_)
        refine lv_lload_n hx hb dX1_numberOf_45 rfl (lv_at hl 2 rfl) ?_
        refine lv_lconst (v := lN 1) hx hb dX1_numberOf_46 (by decide) ?_
        refine lv_ladd hx hb dX1_numberOf_47 ?_
        refine tL (lN_add _ _) ?_
        refine lv_aload_n hx hb dX1_numberOf_48 rfl (lv_at hl 1 rfl) ?_
        refine rw_X1_18 C h hw dX1_numberOf_49 ?_
        refine lv_lshr (v := lN ((k + 1) / 4)) hx hb dX1_numberOf_52 (lsrN (k := k + 1) (by omega) (s := 2) (by decide)) ?_
        refine lv_lneg hx hb dX1_numberOf_53 ?_
        exact rL C hr hlk h dX1_numberOf_54 (Nat.le_of_ble_eq_true rfl) (Nat.le_of_ble_eq_true rfl) (⟨by unfold nbO; rw [if_neg (by omega), if_pos ⟨by decide, c_32⟩]; exact (nL_neg (by omega)).symm, rfl⟩)
    · skip
      have c_5 : (4294967296) ≤ (k) := Nat.not_lt.mp (fun q => c_5 ((lg_cmp_lt _ _).mpr ((pk_lLT (by omega) (by omega)).mpr q)))
      refine lv_ldc2 (v := 4294967296) hx hb C.1.2.2.2.1 (C.1.2.2.2.2 _ uk_X1_60) dX1_numberOf_8 ?_
      refine tL (y := lN 4294967296) (by decide) ?_
      exact rL C hr hlk h dX1_numberOf_11 (Nat.le_of_ble_eq_true rfl) (Nat.le_of_ble_eq_true rfl) (⟨by unfold nbO; rw [if_pos c_5]; rfl, rfl⟩)
theorem gv_X1_64 : GoodIn uW (wsV RX1 64 RX7 yX7_draft (Cond.code yX7_draft cX7_draft 3 none :: uW)) := gI_V (uW_of (by decide +kernel) rfl) (uW_of (by decide +kernel) rfl) (uW_of (by decide +kernel) rfl) (uW_of (by decide +kernel) rfl) (uW_of (by decide +kernel) rfl)
theorem gv_X1_64_n : okN yX7_draft 1 := by decide +kernel
theorem uk_X1_62 : Cond.constantLong RX1 62 (256) ∈ uW := uW_of (by decide +kernel) rfl
set_option maxHeartbeats 4000000 in
set_option maxRecDepth 100000 in
/-- Coding.writeCode -/
theorem k_writeCode (l : Launch) (z : bZ) (v : bV) (sc : Nat → Int32) (ar : Nat → Nat → Int32) (a cb ch cs cd n d : Nat) (o : Option Nat) (hw : cdW v a cb ch cs cd) (ho : ∀ c, o = some c → c < 4294967296) (hn : sc 3 = nI n) (hn8 : n ≤ 8000) (hd : sc 5 = nI d) (hd9 : d < 2 ^ 29) : Met l yX1_writeCode (Cond.code yX1_writeCode cX1_writeCode 7 (some .boolean) :: uW) { frames := 1, cells := 0, slots := 0, locals := 22 } (pC z v sc ar [.ref (a), .long (oL o), .ref (zad z 2)]) (qI z (fun r u => ∃ bs : List Nat, u = (v, va_up sc 5 (nI (d + bs.length)), va_up ar 11 (wrB (ar 11) (n + d) bs)) ∧ bs.length ≤ 5 ∧ ((r = 1 ∧ o.bind (enc cb ch) = some bs) ∨ (r = 0 ∧ o.bind (enc cb ch) = none)))) 0 0 (zA z) := by
  refine eM (by decide) (Nat.le_of_ble_eq_true rfl) ?_
  intro pP eE s mM below meth cC ls C hr hlk h hl
  have hx := C.1.1
  have hb := C.1.2.1
  have hl : lv_has ls 7 [(0, .ref (a)), (1, .long (oL o)), (3, .ref (zad z 2))] := hl
  obtain ⟨-, -, ⟨hB1, hB5⟩, ⟨hH1, hH2⟩, hS, hD⟩ := id hw
  rcases o with _ | k
  · skip
    have hl : lv_has ls 7 [(0, .ref (a)), (1, .long ((-1 : Int64))), (3, .ref (zad z 2))] := hl
    refine lv_lload_n hx hb dX1_writeCode_0 rfl (lv_at hl 1 rfl) ?_
    refine lv_ldc2 (v := -1) hx hb C.1.2.2.2.1 (C.1.2.2.2.2 _ uk_X1_50) dX1_writeCode_1 ?_
    refine W.lcmp hx hb dX1_writeCode_4 ?_
    refine lv_if_ne (tgt := 10) hx hb dX1_writeCode_5 (by decide) (fun c_5 => ?_) (fun c_5 => ?_)
    · skip
      have c_5 : ¬ ((-1 : Int64)) = ((-1 : Int64)) := fun q => c_5 ((lg_cmp_eq _ _).mpr q)
      exact absurd rfl c_5
    · skip
      have c_5 := (lg_cmp_eq _ _).mp c_5
      refine lv_iconst (v := nI (0)) hx hb dX1_writeCode_8 (by decide) ?_
      exact rZ C hr hlk h dX1_writeCode_9 rfl (Nat.le_of_ble_eq_true rfl) (Nat.le_of_ble_eq_true rfl) (⟨[], by have e := wr_start (sc := sc) (ar := ar) (n := n) hd; rw [e.1, e.2], by simp, Or.inr ⟨rfl, rfl⟩⟩)
  · skip
    have hl : lv_has ls 7 [(0, .ref (a)), (1, .long (lN (k))), (3, .ref (zad z 2))] := hl
    have hk := ho k rfl
    refine lv_lload_n hx hb dX1_writeCode_0 rfl (lv_at hl 1 rfl) ?_
    refine lv_ldc2 (v := -1) hx hb C.1.2.2.2.1 (C.1.2.2.2.2 _ uk_X1_50) dX1_writeCode_1 ?_
    refine W.lcmp hx hb dX1_writeCode_4 ?_
    refine lv_if_ne (tgt := 10) hx hb dX1_writeCode_5 (by decide) (fun c_5 => ?_) (fun c_5 => ?_)
    · skip
      have c_5 : ¬ (lN (k)) = ((-1 : Int64)) := fun q => c_5 ((lg_cmp_eq _ _).mpr q)
      refine lv_lload_n hx hb dX1_writeCode_10 rfl (lv_at hl 1 rfl) ?_
      refine lv_lstore (lv' := [(4, .long (lN (k))), (0, .ref (a)), (1, .long (lN (k))), (3, .ref (zad z 2))]) hx hb dX1_writeCode_11 hl (by decide) rfl (fun ls hl => ?_)
      refine lv_iconst (v := nI (1)) hx hb dX1_writeCode_13 (by decide) ?_
      refine lv_istore (lv' := [(6, .int (nI (1))), (4, .long (lN (k))), (0, .ref (a)), (1, .long (lN (k))), (3, .ref (zad z 2))]) hx hb dX1_writeCode_14 hl (by decide) rfl (fun ls hl => ?_)
      refine lpW3 (fun (i : Nat) (kk : Nat) (done : List Nat) (H : Heap) (locs : List Loc) (ls : Array Slot) => (1 ≤ i ∧ i ≤ cb) ∧ (kk < 4294967296) ∧ (enc cb ch k = (enc (cb + 1 - i) ch kk).map (fun t => done ++ t)) ∧ (done.length + 1 = i) ∧ hH z v (va_up sc 5 (nI (d + (done).length))) (va_up ar 11 (wrB (ar 11) (n + d) (done))) s H locs ∧ lv_has ls 7 [(0, .ref (a)), (3, .ref (zad z 2)), (4, .long (lN (kk))), (6, .int (nI (i)))]) (fun (i : Nat) (kk : Nat) (done : List Nat) => cb - i) (fun i kk done ih_16 H locs ls hI => ?_) (1) (k) ([]) ⟨⟨by omega, by omega⟩, hk, by simp, rfl, (by have e := wr_start (sc := sc) (ar := ar) (n := n) hd; rw [e.1, e.2]; exact h), lv_sub hl [2, 4, 1, 0] rfl⟩
      obtain ⟨h1, h2, h3, h4, h, hl⟩ := hI
      refine lv_iload hx hb dX1_writeCode_16 (lv_at hl 3 rfl) ?_
      refine lv_aload_n hx hb dX1_writeCode_18 rfl (lv_at hl 0 rfl) ?_
      refine rw_X1_9 C h hw dX1_writeCode_19 ?_
      refine jN_ge (tgt := 91) (a := i) (b := cb) C (by omega) (by omega) dX1_writeCode_22 (by decide) (fun c_22 => ?_) (fun c_22 => ?_)
      · skip
        refine lv_aload_n hx hb dX1_writeCode_91 rfl (lv_at hl 1 rfl) ?_
        refine lv_lload hx hb dX1_writeCode_92 (lv_at hl 2 rfl) ?_
        refine lv_l2i (v := nI (kk)) hx hb dX1_writeCode_94 (lN_i _) ?_
        refine backV h (runV (As := [.int (nI (kk))]) (rest := []) C h (k_drB l z v sc ar n d (done) (kk) hn hn8 (by omega)) gv_X1_64 gv_X1_64_n ⟨rfl, rfl⟩ (r_Tape C h) rfl hl.1 rfl (Nat.le_of_ble_eq_true rfl) dX1_writeCode_95 ⟨Nat.le_of_ble_eq_true rfl, Nat.le_of_ble_eq_true rfl⟩ ⟨Nat.le_of_ble_eq_true rfl, Nat.le_of_ble_eq_true rfl⟩) (fun v_95 sc_95 ar_95 H locs p_95 h => ?_)
        have h : hH z v (va_up sc 5 (nI (d + (done ++ [kk]).length))) (va_up ar 11 (wrB (ar 11) (n + d) (done ++ [kk]))) s H locs := uEq p_95 h
        refine lv_lload hx hb dX1_writeCode_98 (lv_at hl 2 rfl) ?_
        refine lv_ldc2 (v := 256) hx hb C.1.2.2.2.1 (C.1.2.2.2.2 _ uk_X1_62) dX1_writeCode_100 ?_
        refine tL (y := lN 256) (by decide) ?_
        refine W.lcmp hx hb dX1_writeCode_103 ?_
        refine lv_if_ge (tgt := 111) hx hb dX1_writeCode_104 (by decide) (fun c_104 => ?_) (fun c_104 => ?_)
        · skip
          have c_104 : (256) ≤ (kk) := (pk_lLE (by omega) (by omega)).mp ((lg_cmp_ge _ _).mp c_104)
          refine lv_iconst (v := nI (0)) hx hb dX1_writeCode_111 (by decide) ?_
          exact rZ C hr hlk h dX1_writeCode_112 rfl (Nat.le_of_ble_eq_true rfl) (Nat.le_of_ble_eq_true rfl) (⟨done ++ [kk], rfl, by simp; omega, Or.inr ⟨rfl, by show enc cb ch k = _; rw [h3, show cb + 1 - i = 1 by omega, enc_one, if_neg (by omega)]; rfl⟩⟩)
        · skip
          have c_104 : (kk) < (256) := Nat.not_le.mp (fun q => c_104 ((lg_cmp_ge _ _).mpr ((pk_lLE (by omega) (by omega)).mpr q)))
          refine lv_iconst (v := nI (1)) hx hb dX1_writeCode_107 (by decide) ?_
          refine lv_goto (tgt := 112) hx hb dX1_writeCode_108 (by decide) ?_
          exact rZ C hr hlk h dX1_writeCode_112 rfl (Nat.le_of_ble_eq_true rfl) (Nat.le_of_ble_eq_true rfl) (⟨done ++ [kk], rfl, by simp; omega, Or.inl ⟨rfl, by show enc cb ch k = _; rw [h3, show cb + 1 - i = 1 by omega, enc_one, if_pos c_104]; rfl⟩⟩)
      · skip
        refine lv_lload hx hb dX1_writeCode_25 (lv_at hl 2 rfl) ?_
        refine lv_aload_n hx hb dX1_writeCode_27 rfl (lv_at hl 0 rfl) ?_
        refine rw_X1_24 C h hw dX1_writeCode_28 ?_
        refine lv_i2l (v := lN (256 - ch)) hx hb dX1_writeCode_31 (nI_l (by omega)) ?_
        refine W.lcmp hx hb dX1_writeCode_32 ?_
        refine lv_if_ge (tgt := 45) hx hb dX1_writeCode_33 (by decide) (fun c_33 => ?_) (fun c_33 => ?_)
        · skip
          have c_33 : (256 - ch) ≤ (kk) := (pk_lLE (by omega) (by omega)).mp ((lg_cmp_ge _ _).mp c_33)
          refine lv_aload_n hx hb dX1_writeCode_45 rfl (lv_at hl 1 rfl) ?_
          refine lv_aload_n hx hb dX1_writeCode_46 rfl (lv_at hl 0 rfl) ?_
          refine rw_X1_24 C h hw dX1_writeCode_47 ?_
          refine lv_lload hx hb dX1_writeCode_50 (lv_at hl 2 rfl) ?_
          refine lv_aload_n hx hb dX1_writeCode_52 rfl (lv_at hl 0 rfl) ?_
          refine rw_X1_24 C h hw dX1_writeCode_53 ?_
          refine lv_i2l (v := lN (256 - ch)) hx hb dX1_writeCode_56 (nI_l (by omega)) ?_
          refine lv_lsub hx hb dX1_writeCode_57 ?_
          refine tL (lN_sub (by omega)) ?_
          refine lv_aload_n hx hb dX1_writeCode_58 rfl (lv_at hl 0 rfl) ?_
          refine rw_X1_15 C h hw dX1_writeCode_59 ?_
          refine lv_i2l (v := lN (ch)) hx hb dX1_writeCode_62 (nI_l (by omega)) ?_
          refine lv_lrem hx hb dX1_writeCode_63 (lN_ne0 (by omega) (by omega)) ?_
          refine tL (pk_lRem (by omega) (by omega) (by omega)) ?_
          refine lv_l2i (v := nI (((kk) - (256 - ch)) % (ch))) hx hb dX1_writeCode_64 (lN_i _) ?_
          refine lv_iadd hx hb dX1_writeCode_65 ?_
          refine tI (nI_add _ _) ?_
          refine backV h (runV (As := [.int (nI ((256 - ch) + (((kk) - (256 - ch)) % (ch))))]) (rest := []) C h (k_drB l z v sc ar n d (done) ((256 - ch) + (((kk) - (256 - ch)) % (ch))) hn hn8 (by omega)) gv_X1_64 gv_X1_64_n ⟨rfl, rfl⟩ (r_Tape C h) rfl hl.1 rfl (Nat.le_of_ble_eq_true rfl) dX1_writeCode_66 ⟨Nat.le_of_ble_eq_true rfl, Nat.le_of_ble_eq_true rfl⟩ ⟨Nat.le_of_ble_eq_true rfl, Nat.le_of_ble_eq_true rfl⟩) (fun v_66 sc_66 ar_66 H locs p_66 h => ?_)
          have h : hH z v (va_up sc 5 (nI (d + (done ++ [(256 - ch) + (((kk) - (256 - ch)) % (ch))]).length))) (va_up ar 11 (wrB (ar 11) (n + d) (done ++ [(256 - ch) + (((kk) - (256 - ch)) % (ch))]))) s H locs := uEq p_66 h
          refine lv_lload hx hb dX1_writeCode_69 (lv_at hl 2 rfl) ?_
          refine lv_aload_n hx hb dX1_writeCode_71 rfl (lv_at hl 0 rfl) ?_
          refine rw_X1_24 C h hw dX1_writeCode_72 ?_
          refine lv_i2l (v := lN (256 - ch)) hx hb dX1_writeCode_75 (nI_l (by omega)) ?_
          refine lv_lsub hx hb dX1_writeCode_76 ?_
          refine tL (lN_sub (by omega)) ?_
          refine lv_aload_n hx hb dX1_writeCode_77 rfl (lv_at hl 0 rfl) ?_
          refine rw_X1_15 C h hw dX1_writeCode_78 ?_
          refine lv_i2l (v := lN (ch)) hx hb dX1_writeCode_81 (nI_l (by omega)) ?_
          refine lv_ldiv hx hb dX1_writeCode_82 (lN_ne0 (by omega) (by omega)) ?_
          refine tL (pk_lDiv (by omega) (by omega) (by omega)) ?_
          refine lv_lstore (lv' := [(4, .long (lN (((kk) - (256 - ch)) / (ch)))), (0, .ref (a)), (3, .ref (zad z 2)), (6, .int (nI (i)))]) hx hb dX1_writeCode_83 hl (by decide) rfl (fun ls hl => ?_)
          refine lv_iinc (v := nI (i + 1)) (lv' := [(6, .int (nI (i + 1))), (4, .long (lN (((kk) - (256 - ch)) / (ch)))), (0, .ref (a)), (3, .ref (zad z 2))]) hx hb dX1_writeCode_85 hl (k := 3) rfl (nN_inc _) (by decide) rfl (fun ls hl => ?_)
          refine lv_goto (tgt := 16) hx hb dX1_writeCode_88 (by decide) ?_
          exact ih_16 (i + 1) ((kk - (256 - ch)) / ch) (done ++ [256 - ch + (kk - (256 - ch)) % ch]) (by omega) H locs ls ⟨⟨by omega, by omega⟩, Nat.lt_of_le_of_lt (Nat.div_le_self _ _) (by omega), by rw [h3, enc_step (by omega) c_33, Option.map_map, show cb + 1 - i - 1 = cb + 1 - (i + 1) by omega]; congr 1; funext t; simp, by simp; omega, h, lv_sub hl [2, 3, 1, 0] rfl⟩
        · skip
          have c_33 : (kk) < (256 - ch) := Nat.not_le.mp (fun q => c_33 ((lg_cmp_ge _ _).mpr ((pk_lLE (by omega) (by omega)).mpr q)))
          refine lv_aload_n hx hb dX1_writeCode_36 rfl (lv_at hl 1 rfl) ?_
          refine lv_lload hx hb dX1_writeCode_37 (lv_at hl 2 rfl) ?_
          refine lv_l2i (v := nI (kk)) hx hb dX1_writeCode_39 (lN_i _) ?_
          refine backV h (runV (As := [.int (nI (kk))]) (rest := []) C h (k_drB l z v sc ar n d (done) (kk) hn hn8 (by omega)) gv_X1_64 gv_X1_64_n ⟨rfl, rfl⟩ (r_Tape C h) rfl hl.1 rfl (Nat.le_of_ble_eq_true rfl) dX1_writeCode_40 ⟨Nat.le_of_ble_eq_true rfl, Nat.le_of_ble_eq_true rfl⟩ ⟨Nat.le_of_ble_eq_true rfl, Nat.le_of_ble_eq_true rfl⟩) (fun v_40 sc_40 ar_40 H locs p_40 h => ?_)
          have h : hH z v (va_up sc 5 (nI (d + (done ++ [kk]).length))) (va_up ar 11 (wrB (ar 11) (n + d) (done ++ [kk]))) s H locs := uEq p_40 h
          refine lv_iconst (v := nI (1)) hx hb dX1_writeCode_43 (by decide) ?_
          exact rZ C hr hlk h dX1_writeCode_44 rfl (Nat.le_of_ble_eq_true rfl) (Nat.le_of_ble_eq_true rfl) (⟨done ++ [kk], rfl, by simp; omega, Or.inl ⟨rfl, by show enc cb ch k = _; rw [h3, enc_last (by omega) c_33]; rfl⟩⟩)
    · skip
      have c_5 := (lg_cmp_eq _ _).mp c_5
      exact absurd c_5 (lN_neg1 (by omega))
end
section
/-- byte j of the tape as a number -/
def bN (f : Nat → Int32) (j : Nat) : Nat := (f j).toBitVec.toNat % 256
theorem bN_lt (f : Nat → Int32) (j : Nat) : bN f j < 256 := Nat.mod_lt _ (by decide)
theorem bN_eq (f : Nat → Int32) (j : Nat) : f j &&& 255 = nI (bN f j) := pk_and (f j) 8 (by decide)
theorem nI_neg1 {c : Nat} (h : c < 2 ^ 31) : ¬ nI c = -1 := by
  intro q
  have h1 := congrArg Int32.toInt q
  rw [nI_toInt h] at h1
  have : (-1 : Int32).toInt = -1 := by decide
  omega
/-- a code read from place p of n bytes: the code, and where reading goes on -/
def rdc : Nat → Nat → (Nat → Nat) → Nat → Nat → Option (Nat × Nat)
  | 0, _, _, _, p => some (0, p)
  | k + 1, h, t, n, p => if p < n then (if t p < 256 - h then some (t p, p + 1) else (rdc k h t n (p + 1)).map (fun q => (t p + h * q.1, q.2))) else none
theorem rdc_lo {k h n p : Nat} {t : Nat → Nat} (hk : 0 < k) (hp : p < n) (ht : t p < 256 - h) : rdc k h t n p = some (t p, p + 1) := by
  obtain ⟨j, rfl⟩ : ∃ j, k = j + 1 := ⟨k - 1, by omega⟩
  unfold rdc
  rw [if_pos hp, if_pos ht]
theorem rdc_hi {k h n p : Nat} {t : Nat → Nat} (hk : 0 < k) (hp : p < n) (ht : 256 - h ≤ t p) : rdc k h t n p = (rdc (k - 1) h t n (p + 1)).map (fun q => (t p + h * q.1, q.2)) := by
  obtain ⟨j, rfl⟩ : ∃ j, k = j + 1 := ⟨k - 1, by omega⟩
  conv => lhs; unfold rdc
  rw [if_pos hp, if_neg (by omega)]
  rfl
theorem rdc_end {k h n p : Nat} {t : Nat → Nat} (hk : 0 < k) (hp : n ≤ p) : rdc k h t n p = none := by
  obtain ⟨j, rfl⟩ : ∃ j, k = j + 1 := ⟨k - 1, by omega⟩
  unfold rdc
  rw [if_neg (by omega)]
theorem rdc_bd {h n : Nat} {t : Nat → Nat} (hh : h ≤ 256) (ht : ∀ j, t j < 256) : ∀ (k p : Nat) (x : Nat × Nat), rdc k h t n p = some x → x.1 < 256 ^ k ∧ p ≤ x.2 ∧ (p ≤ n → x.2 ≤ n) ∧ (0 < k → p < x.2)
  | 0, p, x, e => by
    unfold rdc at e
    cases e
    exact ⟨by simp, Nat.le_refl _, fun q => q, fun q => absurd q (by decide)⟩
  | k + 1, p, x, e => by
    unfold rdc at e
    split at e
    · rename_i hp
      split at e
      · cases e
        refine ⟨?_, by simp, fun _ => hp, fun _ => by simp⟩
        have h1 := ht p
        have h2 : 1 ≤ 256 ^ k := Nat.one_le_pow _ _ (by decide)
        rw [Nat.pow_succ]
        simp only
        omega
      · cases hr : rdc k h t n (p + 1) with
        | none => rw [hr] at e; cases e
        | some y =>
          rw [hr] at e
          cases e
          obtain ⟨a1, a2, a3, a4⟩ := rdc_bd hh ht k (p + 1) y hr
          refine ⟨?_, by simp; omega, fun _ => a3 (by omega), fun _ => by simp; omega⟩
          have h1 := ht p
          rw [Nat.pow_succ]
          simp only
          have h3 : h * y.1 ≤ 256 * y.1 := Nat.mul_le_mul_right _ hh
          omega
    · cases e
def lenI (o : Option (List Nat)) : Int32 := match o with
  | some bs => nI bs.length
  | none => -1
theorem gv_X1_67 : GoodIn uW (wsV RX1 67 RX7 yX7_next (Cond.code yX7_next cX7_next 2 (some .int) :: uW)) := gI_V (uW_of (by decide +kernel) rfl) (uW_of (by decide +kernel) rfl) (uW_of (by decide +kernel) rfl) (uW_of (by decide +kernel) rfl) (uW_of (by decide +kernel) rfl)
theorem gv_X1_67_n : okN yX7_next 0 := by decide +kernel
set_option maxHeartbeats 4000000 in
set_option maxRecDepth 100000 in
/-- Coding.readCode -/
theorem k_readCode (l : Launch) (z : bZ) (v : bV) (sc : Nat → Int32) (ar : Nat → Nat → Int32) (a cb ch cs cd n cu : Nat) (hw : cdW v a cb ch cs cd) (hn : sc 3 = nI n) (hn8 : n ≤ 8000) (hc : sc 6 = nI cu) (hcu : cu ≤ n) : Met l yX1_readCode (Cond.code yX1_readCode cX1_readCode 8 (some .long) :: uW) { frames := 2, cells := 0, slots := 0, locals := 42 } (pC z v sc ar [.ref (a), .ref (zad z 2)]) (qL z (fun r u => (∀ c q, rdc cb ch (bN (ar 11)) n cu = some (c, q) → r = lN c ∧ u = (v, va_up sc 6 (nI q), ar)) ∧ (rdc cb ch (bN (ar 11)) n cu = none → r = -1 ∧ ∃ x, u = (v, va_up sc 6 x, ar)))) 0 0 (zA z) := by
  refine eM (by decide) (Nat.le_of_ble_eq_true rfl) ?_
  intro pP eE s mM below meth cC ls C hr hlk h hl
  have hx := C.1.1
  have hb := C.1.2.1
  have hl : lv_has ls 8 [(0, .ref (a)), (1, .ref (zad z 2))] := hl
  obtain ⟨-, -, ⟨hB1, hB5⟩, ⟨hH1, hH2⟩, hS, hD⟩ := id hw
  refine lv_lconst (v := lN 0) hx hb dX1_readCode_0 (by decide) ?_
  refine lv_lstore_n (lv' := [(2, .long (lN (0))), (0, .ref (a)), (1, .ref (zad z 2))]) hx hb dX1_readCode_1 rfl hl (by decide) rfl (fun ls hl => ?_)
  refine lv_lconst (v := lN 1) hx hb dX1_readCode_2 (by decide) ?_
  refine lv_lstore (lv' := [(4, .long (lN (1))), (2, .long (lN (0))), (0, .ref (a)), (1, .ref (zad z 2))]) hx hb dX1_readCode_3 hl (by decide) rfl (fun ls hl => ?_)
  refine lv_iconst (v := nI (0)) hx hb dX1_readCode_5 (by decide) ?_
  refine lv_istore (lv' := [(6, .int (nI (0))), (4, .long (lN (1))), (2, .long (lN (0))), (0, .ref (a)), (1, .ref (zad z 2))]) hx hb dX1_readCode_6 hl (by decide) rfl (fun ls hl => ?_)
  refine lpW4 (fun (i : Nat) (acc : Nat) (wt : Nat) (p : Nat) (H : Heap) (locs : List Loc) (ls : Array Slot) => (i ≤ cb) ∧ (p ≤ n) ∧ (rdc cb ch (bN (ar 11)) n cu = (rdc (cb - i) ch (bN (ar 11)) n p).map (fun q => (acc + wt * q.1, q.2))) ∧ hH z v (va_up sc 6 (nI (p))) ar s H locs ∧ lv_has ls 8 [(0, .ref (a)), (1, .ref (zad z 2)), (2, .long (lN (acc))), (4, .long (lN (wt))), (6, .int (nI (i)))]) (fun (i : Nat) (acc : Nat) (wt : Nat) (p : Nat) => cb - i) (fun i acc wt p ih_8 H locs ls hI => ?_) (0) (0) (1) (cu) ⟨Nat.zero_le _, hcu, by simp, (by rw [va_ue hc]; exact h), lv_sub hl [3, 4, 2, 1, 0] rfl⟩
  obtain ⟨h1, h2, h3, h, hl⟩ := hI
  refine lv_iload hx hb dX1_readCode_8 (lv_at hl 4 rfl) ?_
  refine lv_aload_n hx hb dX1_readCode_10 rfl (lv_at hl 0 rfl) ?_
  refine rw_X1_9 C h hw dX1_readCode_11 ?_
  refine jN_ge (tgt := 69) (a := i) (b := cb) C (by omega) (by omega) dX1_readCode_14 (by decide) (fun c_14 => ?_) (fun c_14 => ?_)
  · skip
    refine lv_lload_n hx hb dX1_readCode_69 rfl (lv_at hl 2 rfl) ?_
    exact rL C hr hlk h dX1_readCode_70 (Nat.le_of_ble_eq_true rfl) (Nat.le_of_ble_eq_true rfl) (have e : rdc cb ch (bN (ar 11)) n cu = some (acc, p) := by rw [h3, show cb - i = 0 by omega]; rfl
      ⟨fun c q hq => by rw [e] at hq; cases hq; exact ⟨rfl, rfl⟩, fun hq => by rw [e] at hq; cases hq⟩)
  · skip
    refine lv_aload_n hx hb dX1_readCode_17 rfl (lv_at hl 1 rfl) ?_
    refine backI h (runV (As := []) (rest := []) C h (k_next l z v (va_up sc 6 (nI (p))) ar n p hn hn8 rfl h2) gv_X1_67 gv_X1_67_n ⟨rfl, rfl⟩ (r_Tape C h) rfl hl.1 rfl (Nat.le_of_ble_eq_true rfl) dX1_readCode_18 ⟨Nat.le_of_ble_eq_true rfl, Nat.le_of_ble_eq_true rfl⟩ ⟨Nat.le_of_ble_eq_true rfl, Nat.le_of_ble_eq_true rfl⟩) (fun r_18 v_18 sc_18 ar_18 H locs p_18 h => ?_)
    rcases Nat.lt_or_ge p n with hp | hp
    · skip
      obtain ⟨e1, e2⟩ := p_18.1 hp
      have h : hH z v (va_up sc 6 (nI (p + 1))) ar s H locs := by rw [← va_uu sc 6 (nI p)]; exact uEq e2 h
      have hb9 := bN_lt (ar 11) p
      refine tI (y := nI (bN (ar 11) p)) (e1.trans (bN_eq _ _)) ?_
      refine lv_istore (lv' := [(7, .int (nI (bN (ar 11) p))), (0, .ref (a)), (1, .ref (zad z 2)), (2, .long (lN (acc))), (4, .long (lN (wt))), (6, .int (nI (i)))]) hx hb dX1_readCode_21 hl (by decide) rfl (fun ls hl => ?_)
      refine lv_iload hx hb dX1_readCode_23 (lv_at hl 0 rfl) ?_
      refine lv_iconst (v := (-1)) hx hb dX1_readCode_25 (by decide) ?_
      refine lv_icmp_ne (tgt := 33) hx hb dX1_readCode_26 (by decide) (fun c_26 => ?_) (fun c_26 => ?_)
      · skip
        refine lv_lload_n hx hb dX1_readCode_33 rfl (lv_at hl 3 rfl) ?_
        refine lv_iload hx hb dX1_readCode_34 (lv_at hl 0 rfl) ?_
        refine lv_i2l (v := lN (bN (ar 11) p)) hx hb dX1_readCode_36 (nI_l (by omega)) ?_
        refine lv_lload hx hb dX1_readCode_37 (lv_at hl 4 rfl) ?_
        refine lv_lmul hx hb dX1_readCode_39 ?_
        refine tL (lN_mul _ _) ?_
        refine lv_ladd hx hb dX1_readCode_40 ?_
        refine tL (lN_add _ _) ?_
        refine lv_lstore_n (lv' := [(2, .long (lN ((acc) + ((bN (ar 11) p) * (wt))))), (7, .int (nI (bN (ar 11) p))), (0, .ref (a)), (1, .ref (zad z 2)), (4, .long (lN (wt))), (6, .int (nI (i)))]) hx hb dX1_readCode_41 rfl hl (by decide) rfl (fun ls hl => ?_)
        refine lv_iload hx hb dX1_readCode_42 (lv_at hl 1 rfl) ?_
        refine lv_aload_n hx hb dX1_readCode_44 rfl (lv_at hl 2 rfl) ?_
        refine rw_X1_24 C h hw dX1_readCode_45 ?_
        refine jN_ge (tgt := 53) (a := bN (ar 11) p) (b := 256 - ch) C (by omega) (by omega) dX1_readCode_48 (by decide) (fun c_48 => ?_) (fun c_48 => ?_)
        · skip
          refine lv_lload hx hb dX1_readCode_53 (lv_at hl 4 rfl) ?_
          refine lv_aload_n hx hb dX1_readCode_55 rfl (lv_at hl 2 rfl) ?_
          refine rw_X1_15 C h hw dX1_readCode_56 ?_
          refine lv_i2l (v := lN (ch)) hx hb dX1_readCode_59 (nI_l (by omega)) ?_
          refine lv_lmul hx hb dX1_readCode_60 ?_
          refine tL (lN_mul _ _) ?_
          refine lv_lstore (lv' := [(4, .long (lN ((wt) * (ch)))), (2, .long (lN ((acc) + ((bN (ar 11) p) * (wt))))), (7, .int (nI (bN (ar 11) p))), (0, .ref (a)), (1, .ref (zad z 2)), (6, .int (nI (i)))]) hx hb dX1_readCode_61 hl (by decide) rfl (fun ls hl => ?_)
          refine lv_iinc (v := nI (i + 1)) (lv' := [(6, .int (nI (i + 1))), (4, .long (lN ((wt) * (ch)))), (2, .long (lN ((acc) + ((bN (ar 11) p) * (wt))))), (7, .int (nI (bN (ar 11) p))), (0, .ref (a)), (1, .ref (zad z 2))]) hx hb dX1_readCode_63 hl (k := 5) rfl (nN_inc _) (by decide) rfl (fun ls hl => ?_)
          refine lv_goto (tgt := 8) hx hb dX1_readCode_66 (by decide) ?_
          exact ih_8 (i + 1) (acc + bN (ar 11) p * wt) (wt * ch) (p + 1) (by omega) H locs ls ⟨by omega, by omega, by rw [h3, rdc_hi (by omega) hp c_48, Option.map_map, show cb - i - 1 = cb - (i + 1) by omega]; congr 1; funext q; simp only [Function.comp, Nat.mul_add, Nat.mul_comm, Nat.mul_left_comm, Nat.add_assoc], h, lv_sub hl [4, 5, 2, 1, 0] rfl⟩
        · skip
          refine lv_lload_n hx hb dX1_readCode_51 rfl (lv_at hl 0 rfl) ?_
          exact rL C hr hlk h dX1_readCode_52 (Nat.le_of_ble_eq_true rfl) (Nat.le_of_ble_eq_true rfl) (have e : rdc cb ch (bN (ar 11)) n cu = some (acc + bN (ar 11) p * wt, p + 1) := by rw [h3, rdc_lo (by omega) hp c_48]; simp [Nat.mul_comm]
            ⟨fun c q hq => by rw [e] at hq; cases hq; exact ⟨rfl, rfl⟩, fun hq => by rw [e] at hq; cases hq⟩)
      · skip
        exact absurd c_26 (nI_neg1 (by omega))
    · skip
      obtain ⟨e1, e2⟩ := p_18.2 hp
      have h : hH z v (va_up sc 6 (nI p)) ar s H locs := uEq e2 h
      refine tI (y := (-1)) e1 ?_
      refine lv_istore (lv' := [(7, .int ((-1))), (0, .ref (a)), (1, .ref (zad z 2)), (2, .long (lN (acc))), (4, .long (lN (wt))), (6, .int (nI (i)))]) hx hb dX1_readCode_21 hl (by decide) rfl (fun ls hl => ?_)
      refine lv_iload hx hb dX1_readCode_23 (lv_at hl 0 rfl) ?_
      refine lv_iconst (v := (-1)) hx hb dX1_readCode_25 (by decide) ?_
      refine lv_icmp_ne (tgt := 33) hx hb dX1_readCode_26 (by decide) (fun c_26 => ?_) (fun c_26 => ?_)
      · skip
        exact absurd rfl c_26
      · skip
        refine lv_ldc2 (v := -1) hx hb C.1.2.2.2.1 (C.1.2.2.2.2 _ uk_X1_50) dX1_readCode_29 ?_
        exact rL C hr hlk h dX1_readCode_32 (Nat.le_of_ble_eq_true rfl) (Nat.le_of_ble_eq_true rfl) (have e : rdc cb ch (bN (ar 11)) n cu = none := by rw [h3, rdc_end (by omega) hp]; rfl
          ⟨fun c q hq => (by rw [e] at hq; cases hq), fun _ => ⟨rfl, _, rfl⟩⟩)
def lenJ (j : Nat) (q : Option (List Nat)) : Int32 := match q with
  | some t => nI (j + t.length)
  | none => -1
theorem lenI_of {o q : Option (List Nat)} {j : Nat} (h : o.map List.length = q.map (fun t => j + t.length)) : lenI o = lenJ j q := by
  cases o <;> cases q <;> simp at h <;> simp [lenI, lenJ, h]
theorem gv_X1_27 : GoodIn uW (wsV RX1 27 RX1 yX1_codeOf (Cond.code yX1_codeOf cX1_codeOf 7 (some .long) :: uW)) := gI_V (uW_of (by decide +kernel) rfl) (uW_of (by decide +kernel) rfl) (uW_of (by decide +kernel) rfl) (uW_of (by decide +kernel) rfl) (uW_of (by decide +kernel) rfl)
theorem gv_X1_27_n : okN yX1_codeOf 2 := by decide +kernel
set_option maxHeartbeats 4000000 in
set_option maxRecDepth 100000 in
/-- Coding.bytesOf -/
theorem k_bytesOf (l : Launch) (z : bZ) (v : bV) (sc : Nat → Int32) (ar : Nat → Nat → Int32) (a cb ch cs cd : Nat) (x y : Int32) (hw : cdW v a cb ch cs cd) : Met l yX1_bytesOf (Cond.code yX1_bytesOf cX1_bytesOf 6 (some .int) :: uW) { frames := 1, cells := 0, slots := 0, locals := 26 } (pC z v sc ar [.ref (a), .int (x), .int (y)]) (qI z (fun r u => r = lenI ((cdO cs (toldI cd x y)).bind (enc cb ch)) ∧ u = (v, sc, ar))) 0 0 (zA z) := by
  refine eM (by decide) (Nat.le_of_ble_eq_true rfl) ?_
  intro pP eE s mM below meth cC ls C hr hlk h hl
  have hx := C.1.1
  have hb := C.1.2.1
  have hl : lv_has ls 6 [(0, .ref (a)), (1, .int (x)), (2, .int (y))] := hl
  obtain ⟨-, -, ⟨hB1, hB5⟩, ⟨hH1, hH2⟩, hS, hD⟩ := id hw
  refine lv_aload_n hx hb dX1_bytesOf_0 rfl (lv_at hl 0 rfl) ?_
  refine lv_iload_n hx hb dX1_bytesOf_1 rfl (lv_at hl 1 rfl) ?_
  refine lv_iload_n hx hb dX1_bytesOf_2 rfl (lv_at hl 2 rfl) ?_
  refine backL h (runV (As := [.int (x), .int (y)]) (rest := []) C h (k_codeOf l z v sc ar a cb ch cs cd x y hw) gv_X1_27 gv_X1_27_n ⟨rfl, rfl⟩ (r_Cod C h hw) rfl hl.1 rfl (Nat.le_of_ble_eq_true rfl) dX1_bytesOf_3 ⟨Nat.le_of_ble_eq_true rfl, Nat.le_of_ble_eq_true rfl⟩ ⟨Nat.le_of_ble_eq_true rfl, Nat.le_of_ble_eq_true rfl⟩) (fun r_3 v_3 sc_3 ar_3 H locs p_3 h => ?_)
  have h : hH z v sc ar s H locs := uEq p_3.2 h
  rcases ho : cdO cs (toldI cd x y) with _ | k
  · skip
    refine tL (y := (-1 : Int64)) (by rw [p_3.1, ho]; rfl) ?_
    refine lv_lstore_n (lv' := [(3, .long ((-1 : Int64))), (0, .ref (a)), (1, .int (x)), (2, .int (y))]) hx hb dX1_bytesOf_6 rfl hl (by decide) rfl (fun ls hl => ?_)
    refine lv_lload_n hx hb dX1_bytesOf_7 rfl (lv_at hl 0 rfl) ?_
    refine lv_ldc2 (v := -1) hx hb C.1.2.2.2.1 (C.1.2.2.2.2 _ uk_X1_50) dX1_bytesOf_8 ?_
    refine W.lcmp hx hb dX1_bytesOf_11 ?_
    refine lv_if_ne (tgt := 17) hx hb dX1_bytesOf_12 (by decide) (fun c_12 => ?_) (fun c_12 => ?_)
    · skip
      have c_12 : ¬ ((-1 : Int64)) = ((-1 : Int64)) := fun q => c_12 ((lg_cmp_eq _ _).mpr q)
      exact absurd rfl c_12
    · skip
      have c_12 := (lg_cmp_eq _ _).mp c_12
      refine lv_iconst (v := (-1)) hx hb dX1_bytesOf_15 (by decide) ?_
      exact rI C hr hlk h dX1_bytesOf_16 (Nat.le_of_ble_eq_true rfl) (Nat.le_of_ble_eq_true rfl) (⟨rfl, rfl⟩)
  · skip
    have hk := cdO_lt hS ho
    refine tL (y := lN k) (by rw [p_3.1, ho]; rfl) ?_
    refine lv_lstore_n (lv' := [(3, .long (lN (k))), (0, .ref (a)), (1, .int (x)), (2, .int (y))]) hx hb dX1_bytesOf_6 rfl hl (by decide) rfl (fun ls hl => ?_)
    refine lv_lload_n hx hb dX1_bytesOf_7 rfl (lv_at hl 0 rfl) ?_
    refine lv_ldc2 (v := -1) hx hb C.1.2.2.2.1 (C.1.2.2.2.2 _ uk_X1_50) dX1_bytesOf_8 ?_
    refine W.lcmp hx hb dX1_bytesOf_11 ?_
    refine lv_if_ne (tgt := 17) hx hb dX1_bytesOf_12 (by decide) (fun c_12 => ?_) (fun c_12 => ?_)
    · skip
      have c_12 : ¬ (lN (k)) = ((-1 : Int64)) := fun q => c_12 ((lg_cmp_eq _ _).mpr q)
      refine lv_iconst (v := nI (1)) hx hb dX1_bytesOf_17 (by decide) ?_
      refine lv_istore (lv' := [(5, .int (nI (1))), (3, .long (lN (k))), (0, .ref (a)), (1, .int (x)), (2, .int (y))]) hx hb dX1_bytesOf_18 hl (by decide) rfl (fun ls hl => ?_)
      refine lpW2 (fun (i : Nat) (kk : Nat) (H : Heap) (locs : List Loc) (ls : Array Slot) => (1 ≤ i ∧ i ≤ cb) ∧ (kk < 4294967296) ∧ ((enc cb ch k).map List.length = (enc (cb + 1 - i) ch kk).map (fun t => i - 1 + t.length)) ∧ hH z v sc ar s H locs ∧ lv_has ls 6 [(0, .ref (a)), (3, .long (lN (kk))), (5, .int (nI (i)))]) (fun (i : Nat) (kk : Nat) => cb - i) (fun i kk ih_20 H locs ls hI => ?_) (1) (k) ⟨⟨by omega, by omega⟩, hk, by simp, h, lv_sub hl [2, 1, 0] rfl⟩
      obtain ⟨h1, h2, h3, h, hl⟩ := hI
      refine lv_iload hx hb dX1_bytesOf_20 (lv_at hl 2 rfl) ?_
      refine lv_aload_n hx hb dX1_bytesOf_22 rfl (lv_at hl 0 rfl) ?_
      refine rw_X1_9 C h hw dX1_bytesOf_23 ?_
      refine jN_ge (tgt := 62) (a := i) (b := cb) C (by omega) (by omega) dX1_bytesOf_26 (by decide) (fun c_26 => ?_) (fun c_26 => ?_)
      · skip
        refine lv_lload_n hx hb dX1_bytesOf_62 rfl (lv_at hl 1 rfl) ?_
        refine lv_ldc2 (v := 256) hx hb C.1.2.2.2.1 (C.1.2.2.2.2 _ uk_X1_62) dX1_bytesOf_63 ?_
        refine tL (y := lN 256) (by decide) ?_
        refine W.lcmp hx hb dX1_bytesOf_66 ?_
        refine lv_if_ge (tgt := 77) hx hb dX1_bytesOf_67 (by decide) (fun c_67 => ?_) (fun c_67 => ?_)
        · skip
          have c_67 : (256) ≤ (kk) := (pk_lLE (by omega) (by omega)).mp ((lg_cmp_ge _ _).mp c_67)
          refine lv_iconst (v := (-1)) hx hb dX1_bytesOf_77 (by decide) ?_
          exact rI C hr hlk h dX1_bytesOf_78 (Nat.le_of_ble_eq_true rfl) (Nat.le_of_ble_eq_true rfl) (⟨by show _ = lenI (enc cb ch k); rw [lenI_of h3, show cb + 1 - i = 1 by omega, enc_one, if_neg (by omega)]; rfl, rfl⟩)
        · skip
          have c_67 : (kk) < (256) := Nat.not_le.mp (fun q => c_67 ((lg_cmp_ge _ _).mpr ((pk_lLE (by omega) (by omega)).mpr q)))
          refine lv_aload_n hx hb dX1_bytesOf_70 rfl (lv_at hl 0 rfl) ?_
          refine rw_X1_9 C h hw dX1_bytesOf_71 ?_
          refine lv_goto (tgt := 78) hx hb dX1_bytesOf_74 (by decide) ?_
          exact rI C hr hlk h dX1_bytesOf_78 (Nat.le_of_ble_eq_true rfl) (Nat.le_of_ble_eq_true rfl) (⟨by show _ = lenI (enc cb ch k); rw [lenI_of h3, show cb + 1 - i = 1 by omega, enc_one, if_pos c_67]; show nI cb = nI (i - 1 + 1); congr 1; omega, rfl⟩)
      · skip
        refine lv_lload_n hx hb dX1_bytesOf_29 rfl (lv_at hl 1 rfl) ?_
        refine lv_aload_n hx hb dX1_bytesOf_30 rfl (lv_at hl 0 rfl) ?_
        refine rw_X1_24 C h hw dX1_bytesOf_31 ?_
        refine lv_i2l (v := lN (256 - ch)) hx hb dX1_bytesOf_34 (nI_l (by omega)) ?_
        refine W.lcmp hx hb dX1_bytesOf_35 ?_
        refine lv_if_ge (tgt := 42) hx hb dX1_bytesOf_36 (by decide) (fun c_36 => ?_) (fun c_36 => ?_)
        · skip
          have c_36 : (256 - ch) ≤ (kk) := (pk_lLE (by omega) (by omega)).mp ((lg_cmp_ge _ _).mp c_36)
          refine lv_lload_n hx hb dX1_bytesOf_42 rfl (lv_at hl 1 rfl) ?_
          refine lv_aload_n hx hb dX1_bytesOf_43 rfl (lv_at hl 0 rfl) ?_
          refine rw_X1_24 C h hw dX1_bytesOf_44 ?_
          refine lv_i2l (v := lN (256 - ch)) hx hb dX1_bytesOf_47 (nI_l (by omega)) ?_
          refine lv_lsub hx hb dX1_bytesOf_48 ?_
          refine tL (lN_sub (by omega)) ?_
          refine lv_aload_n hx hb dX1_bytesOf_49 rfl (lv_at hl 0 rfl) ?_
          refine rw_X1_15 C h hw dX1_bytesOf_50 ?_
          refine lv_i2l (v := lN (ch)) hx hb dX1_bytesOf_53 (nI_l (by omega)) ?_
          refine lv_ldiv hx hb dX1_bytesOf_54 (lN_ne0 (by omega) (by omega)) ?_
          refine tL (pk_lDiv (by omega) (by omega) (by omega)) ?_
          refine lv_lstore_n (lv' := [(3, .long (lN (((kk) - (256 - ch)) / (ch)))), (0, .ref (a)), (5, .int (nI (i)))]) hx hb dX1_bytesOf_55 rfl hl (by decide) rfl (fun ls hl => ?_)
          refine lv_iinc (v := nI (i + 1)) (lv' := [(5, .int (nI (i + 1))), (3, .long (lN (((kk) - (256 - ch)) / (ch)))), (0, .ref (a))]) hx hb dX1_bytesOf_56 hl (k := 2) rfl (nN_inc _) (by decide) rfl (fun ls hl => ?_)
          refine lv_goto (tgt := 20) hx hb dX1_bytesOf_59 (by decide) ?_
          exact ih_20 (i + 1) ((kk - (256 - ch)) / ch) (by omega) H locs ls ⟨⟨by omega, by omega⟩, Nat.lt_of_le_of_lt (Nat.div_le_self _ _) (by omega), by rw [h3, enc_step (by omega) c_36, Option.map_map, show cb + 1 - i - 1 = cb + 1 - (i + 1) by omega]; congr 1; funext t; simp only [Function.comp, List.length_cons]; omega, h, lv_sub hl [2, 1, 0] rfl⟩
        · skip
          have c_36 : (kk) < (256 - ch) := Nat.not_le.mp (fun q => c_36 ((lg_cmp_ge _ _).mpr ((pk_lLE (by omega) (by omega)).mpr q)))
          refine lv_iload hx hb dX1_bytesOf_39 (lv_at hl 2 rfl) ?_
          exact rI C hr hlk h dX1_bytesOf_41 (Nat.le_of_ble_eq_true rfl) (Nat.le_of_ble_eq_true rfl) (⟨by show _ = lenI (enc cb ch k); rw [lenI_of h3, enc_last (by omega) c_36]; show nI i = nI (i - 1 + 1); congr 1; omega, rfl⟩)
    · skip
      have c_12 := (lg_cmp_eq _ _).mp c_12
      exact absurd c_12 (lN_neg1 (by omega))
/-- count numbers of a row from a place on -/
def rowL (f : Nat → Int32) : Nat → Nat → List Int32
  | _, 0 => []
  | i, k + 1 => f i :: rowL f (i + 1) k
theorem rowL_len (f : Nat → Int32) : ∀ (k i : Nat), (rowL f i k).length = k
  | 0, _ => rfl
  | k + 1, i => by unfold rowL; rw [List.length_cons, rowL_len f k (i + 1)]
theorem rowL_step {f : Nat → Int32} {i k : Nat} (h : 0 < k) : rowL f i k = f i :: rowL f (i + 1) (k - 1) := by
  obtain ⟨j, rfl⟩ : ∃ j, k = j + 1 := ⟨k - 1, by omega⟩
  rfl
/-- how a coding writes a row -/
def wrC (cb ch cs cd : Nat) : Int32 → List Int32 → Option (List Nat)
  | _, [] => some []
  | b, x :: xs => ((cdO cs (toldI cd x b)).bind (enc cb ch)).bind (fun t => (wrC cb ch cs cd x xs).map (fun r => t ++ r))
theorem wr_cat {z : bZ} {v v' : bV} {sc sc' : Nat → Int32} {ar ar' : Nat → Nat → Int32} {s : State} {H : Heap} {locs : List Loc} {n d : Nat} {done bs : List Nat} (h : hH z v' sc' ar' s H locs)
    (e : ((v', sc', ar') : bS) = (v, va_up (va_up sc 5 (nI (d + done.length))) 5 (nI (d + done.length + bs.length)), va_up (va_up ar 11 (wrB (ar 11) (n + d) done)) 11 (wrB (va_up ar 11 (wrB (ar 11) (n + d) done) 11) (n + (d + done.length)) bs))) :
    hH z v (va_up sc 5 (nI (d + (done ++ bs).length))) (va_up ar 11 (wrB (ar 11) (n + d) (done ++ bs))) s H locs := by
  rw [va_uu, va_uu, va_up_self, ← Nat.add_assoc, wrB_app, Nat.add_assoc] at e
  rw [List.length_append]
  exact uEq e h
/-- a row with these from a place on -/
def wrR (f : Nat → Int32) (p : Nat) (xs : List Int32) : Nat → Int32 := fun j => if p ≤ j ∧ j < p + xs.length then xs.getD (j - p) 0 else f j
theorem wrR_nil (f : Nat → Int32) (p : Nat) : wrR f p [] = f := by
  funext j
  unfold wrR
  rw [if_neg (by simp only [List.length_nil]; omega)]
theorem wrR_snoc (f : Nat → Int32) (p : Nat) (xs : List Int32) (x : Int32) : upd (wrR f p xs) (p + xs.length) x = wrR f p (xs ++ [x]) := by
  funext j
  unfold upd wrR
  simp only [List.length_append, List.length_cons, List.length_nil]
  by_cases hj : j = p + xs.length
  · subst hj
    rw [if_pos rfl, if_pos (by omega)]
    simp
  · rw [if_neg hj]
    by_cases h : p ≤ j ∧ j < p + xs.length
    · rw [if_pos h, if_pos (by omega), List.getD_eq_getElem?_getD, List.getD_eq_getElem?_getD, List.getElem?_append_left (by omega)]
    · rw [if_neg h, if_neg (by omega)]
theorem wrR_last (f : Nat → Int32) (p : Nat) (xs : List Int32) (x : Int32) : wrR f p (xs ++ [x]) (p + xs.length) = x := by
  rw [← wrR_snoc, pk_us]
/-- how a coding reads so many numbers: they and where reading goes on, or the fault and its place -/
def rdL (cb ch cs cd : Nat) (t : Nat → Nat) (n : Nat) : Nat → Int32 → Nat → (List Int32 × Nat) ⊕ (Nat × Nat)
  | 0, _, p => .inl ([], p)
  | k + 1, b, p => match rdc cb ch t n p with
    | none => .inr (1, p)
    | some (c, q) => match nbO cs c with
      | none => .inr (2, p)
      | some i => match rdL cb ch cs cd t n k (if cd = 1 then b + Int32.ofInt i else Int32.ofInt i) q with
        | .inl (xs, e) => .inl ((if cd = 1 then b + Int32.ofInt i else Int32.ofInt i) :: xs, e)
        | .inr f => .inr f
/-- numbers ahead of what is read -/
def rdPre (xs : List Int32) : (List Int32 × Nat) ⊕ (Nat × Nat) → (List Int32 × Nat) ⊕ (Nat × Nat)
  | .inl (ys, e) => .inl (xs ++ ys, e)
  | .inr f => .inr f
theorem nL_i (i : Int) : (Int64.ofInt i).toInt32 = Int32.ofInt i := by
  apply Int32.toBitVec_inj.mp
  show (BitVec.ofInt 64 i).signExtend 32 = BitVec.ofInt 32 i
  apply BitVec.eq_of_toInt_eq
  rw [BitVec.toInt_signExtend_eq_toInt_bmod_of_le _ (by decide), BitVec.toInt_ofInt, BitVec.toInt_ofInt, Int.bmod_bmod_of_dvd (by decide)]
theorem nbO_rng {s c : Nat} {i : Int} (hs : s ≤ 2) (h : nbO s c = some i) : -4294967296 < i ∧ i < 2147483648 := by
  unfold nbO at h
  generalize (if s = 0 then c else c - c / 2 ^ s) = w at h
  split at h
  · cases h
  · split at h
    · cases h
      have h1 : (c + 1) / 2 ^ s ≤ c + 1 := Nat.div_le_self _ _
      rename_i q1 q2
      have h2 : 0 < s := Nat.pos_of_ne_zero q2.1
      rcases (show s = 1 ∨ s = 2 by omega) with rfl | rfl <;> omega
    · split at h
      · cases h
        omega
      · cases h
theorem nL64_ne {s c : Nat} {i : Int} (hs : s ≤ 2) (h : nbO s c = some i) : ¬ Int64.ofInt i = lN 4294967296 := by
  intro q
  have hr := nbO_rng hs h
  have h1 := congrArg Int64.toInt q
  rw [pk_lT (by decide), Int64.toInt_ofInt, Int.bmod_def, show ((Int64.size : Nat) : Int) = 18446744073709551616 from rfl] at h1
  omega
theorem gv_X1_37 : GoodIn uW (wsV RX1 37 RX1 yX1_writeCode (Cond.code yX1_writeCode cX1_writeCode 7 (some .boolean) :: uW)) := gI_V (uW_of (by decide +kernel) rfl) (uW_of (by decide +kernel) rfl) (uW_of (by decide +kernel) rfl) (uW_of (by decide +kernel) rfl) (uW_of (by decide +kernel) rfl)
theorem gv_X1_37_n : okN yX1_writeCode 2 := by decide +kernel
set_option maxHeartbeats 4000000 in
set_option maxRecDepth 100000 in
/-- Coding.write -/
theorem k_cWrite (l : Launch) (z : bZ) (v : bV) (sc : Nat → Int32) (ar : Nat → Nat → Int32) (a cb ch cs cd n d k fr cnt : Nat) (hw : cdW v a cb ch cs cd) (hn : sc 3 = nI n) (hn8 : n ≤ 8000) (hd : sc 5 = nI d) (hd9 : d + 5 * cnt < 2 ^ 29) (hk : isA k = true) (hk11 : k ≠ 11) (hkL : aL k < 2 ^ 31) (hfc : fr + cnt ≤ aL k) : Met l yX1_write (Cond.code yX1_write cX1_write 7 (some .boolean) :: uW) { frames := 2, cells := 0, slots := 0, locals := 48 } (pC z v sc ar [.ref (a), .ref (zad z 1), .ref (zad z k), .int (nI (fr)), .int (nI (cnt))]) (qI z (fun r u => ∃ bs : List Nat, u = (v, va_up sc 5 (nI (d + bs.length)), va_up ar 11 (wrB (ar 11) (n + d) bs)) ∧ bs.length ≤ 5 * cnt ∧ ((r = 1 ∧ wrC cb ch cs cd 0 (rowL (ar k) fr cnt) = some bs) ∨ (r = 0 ∧ wrC cb ch cs cd 0 (rowL (ar k) fr cnt) = none)))) 0 0 (zA z) := by
  refine eM (by decide) (Nat.le_of_ble_eq_true rfl) ?_
  intro pP eE s mM below meth cC ls C hr hlk h hl
  have hx := C.1.1
  have hb := C.1.2.1
  have hl : lv_has ls 7 [(0, .ref (a)), (1, .ref (zad z 1)), (2, .ref (zad z k)), (3, .int (nI (fr))), (4, .int (nI (cnt)))] := hl
  obtain ⟨-, -, ⟨hB1, hB5⟩, ⟨hH1, hH2⟩, hS, hD⟩ := id hw
  refine lv_iconst (v := nI (0)) hx hb dX1_write_0 (by decide) ?_
  refine lv_istore (lv' := [(5, .int (nI (0))), (0, .ref (a)), (1, .ref (zad z 1)), (2, .ref (zad z k)), (3, .int (nI (fr))), (4, .int (nI (cnt)))]) hx hb dX1_write_1 hl (by decide) rfl (fun ls hl => ?_)
  refine lv_iload_n hx hb dX1_write_3 rfl (lv_at hl 4 rfl) ?_
  refine lv_istore (lv' := [(6, .int (nI (fr))), (5, .int (nI (0))), (0, .ref (a)), (1, .ref (zad z 1)), (2, .ref (zad z k)), (3, .int (nI (fr))), (4, .int (nI (cnt)))]) hx hb dX1_write_4 hl (by decide) rfl (fun ls hl => ?_)
  refine lpW3 (fun (i : Nat) (bef : Int32) (done : List Nat) (H : Heap) (locs : List Loc) (ls : Array Slot) => (fr ≤ i ∧ i ≤ fr + cnt) ∧ (wrC cb ch cs cd 0 (rowL (ar k) fr cnt) = (wrC cb ch cs cd bef (rowL (ar k) i (fr + cnt - i))).map (fun t => done ++ t)) ∧ (done.length ≤ 5 * (i - fr)) ∧ hH z v (va_up sc 5 (nI (d + (done).length))) (va_up ar 11 (wrB (ar 11) (n + d) (done))) s H locs ∧ lv_has ls 7 [(0, .ref (a)), (1, .ref (zad z 1)), (2, .ref (zad z k)), (3, .int (nI (fr))), (4, .int (nI (cnt))), (5, .int (bef)), (6, .int (nI (i)))]) (fun (i : Nat) (bef : Int32) (done : List Nat) => fr + cnt - i) (fun i bef done ih_6 H locs ls hI => ?_) (fr) (nI 0) ([]) ⟨⟨Nat.le_refl _, by omega⟩, by rw [show fr + cnt - fr = cnt by omega]; simp; rfl, by simp, (by have e := wr_start (sc := sc) (ar := ar) (n := n) hd; rw [e.1, e.2]; exact h), lv_sub hl [2, 3, 4, 5, 6, 1, 0] rfl⟩
  obtain ⟨h1, h3, h4, h, hl⟩ := hI
  refine lv_iload hx hb dX1_write_6 (lv_at hl 6 rfl) ?_
  refine lv_iload_n hx hb dX1_write_8 rfl (lv_at hl 3 rfl) ?_
  refine lv_iload hx hb dX1_write_9 (lv_at hl 4 rfl) ?_
  refine lv_iadd hx hb dX1_write_11 ?_
  refine tI (nI_add _ _) ?_
  refine jN_ge (tgt := 50) (a := i) (b := (fr) + (cnt)) C (by omega) (by omega) dX1_write_12 (by decide) (fun c_12 => ?_) (fun c_12 => ?_)
  · skip
    refine lv_iconst (v := nI (1)) hx hb dX1_write_50 (by decide) ?_
    exact rZ C hr hlk h dX1_write_51 rfl (Nat.le_of_ble_eq_true rfl) (Nat.le_of_ble_eq_true rfl) (⟨done, rfl, by omega, Or.inl ⟨rfl, by rw [h3, show fr + cnt - i = 0 by omega]; simp [rowL, wrC]⟩⟩)
  · skip
    refine lv_aload_n hx hb dX1_write_15 rfl (lv_at hl 0 rfl) ?_
    refine lv_aload_n hx hb dX1_write_16 rfl (lv_at hl 0 rfl) ?_
    refine lv_aload_n hx hb dX1_write_17 rfl (lv_at hl 2 rfl) ?_
    refine lv_iload hx hb dX1_write_18 (lv_at hl 6 rfl) ?_
    refine ldA k hk (j := i) (by omega) hkL C h dX1_write_20 ?_
    refine tI (y := ar k i) (congrFun (va_up_ne _ _ hk11) _) ?_
    refine lv_iload hx hb dX1_write_21 (lv_at hl 5 rfl) ?_
    refine backL h (runV (As := [.int (ar k i), .int (bef)]) (rest := [.ref (a)]) C h (k_codeOf l z v (va_up sc 5 (nI (d + (done).length))) (va_up ar 11 (wrB (ar 11) (n + d) (done))) a cb ch cs cd (ar k i) bef hw) gv_X1_27 gv_X1_27_n ⟨rfl, rfl⟩ (r_Cod C h hw) rfl hl.1 rfl (Nat.le_of_ble_eq_true rfl) dX1_write_23 ⟨Nat.le_of_ble_eq_true rfl, Nat.le_of_ble_eq_true rfl⟩ ⟨Nat.le_of_ble_eq_true rfl, Nat.le_of_ble_eq_true rfl⟩) (fun r_23 v_23 sc_23 ar_23 H locs p_23 h => ?_)
    have h : hH z v (va_up sc 5 (nI (d + (done).length))) (va_up ar 11 (wrB (ar 11) (n + d) (done))) s H locs := uEq p_23.2 h
    refine tL (y := oL (cdO cs (toldI cd (ar k i) bef))) p_23.1 ?_
    refine lv_aload_n hx hb dX1_write_26 rfl (lv_at hl 1 rfl) ?_
    refine rg_X1_31 C h dX1_write_27 ?_
    refine backI h (runV (As := [.long (oL (cdO cs (toldI cd (ar k i) bef))), .ref (zad z 2)]) (rest := []) C h (k_writeCode l z v (va_up sc 5 (nI (d + (done).length))) (va_up ar 11 (wrB (ar 11) (n + d) (done))) a cb ch cs cd n (d + done.length) (cdO cs (toldI cd (ar k i) bef)) hw (fun _ q => cdO_lt hS q) hn hn8 rfl (by omega)) gv_X1_37 gv_X1_37_n ⟨rfl, rfl⟩ (r_Cod C h hw) rfl hl.1 rfl (Nat.le_of_ble_eq_true rfl) dX1_write_30 ⟨Nat.le_of_ble_eq_true rfl, Nat.le_of_ble_eq_true rfl⟩ ⟨Nat.le_of_ble_eq_true rfl, Nat.le_of_ble_eq_true rfl⟩) (fun r_30 v_30 sc_30 ar_30 H locs p_30 h => ?_)
    obtain ⟨bs, e1, e2, e3⟩ := p_30
    have h := wr_cat h e1
    rcases e3 with ⟨e3, e4⟩ | ⟨e3, e4⟩
    · skip
      refine tI (y := nI 1) e3 ?_
      refine zN_ne (tgt := 38) (a := 1) C (by decide) dX1_write_33 (by decide) (fun _ => ?_) (fun q => absurd q (by decide))
      refine lv_aload_n hx hb dX1_write_38 rfl (lv_at hl 2 rfl) ?_
      refine lv_iload hx hb dX1_write_39 (lv_at hl 6 rfl) ?_
      refine ldA k hk (j := i) (by omega) hkL C h dX1_write_41 ?_
      refine tI (y := ar k i) (congrFun (va_up_ne _ _ hk11) _) ?_
      refine lv_istore (lv' := [(5, .int (ar k i)), (0, .ref (a)), (1, .ref (zad z 1)), (2, .ref (zad z k)), (3, .int (nI (fr))), (4, .int (nI (cnt))), (6, .int (nI (i)))]) hx hb dX1_write_42 hl (by decide) rfl (fun ls hl => ?_)
      refine lv_iinc (v := nI (i + 1)) (lv' := [(6, .int (nI (i + 1))), (5, .int (ar k i)), (0, .ref (a)), (1, .ref (zad z 1)), (2, .ref (zad z k)), (3, .int (nI (fr))), (4, .int (nI (cnt)))]) hx hb dX1_write_44 hl (k := 6) rfl (nN_inc _) (by decide) rfl (fun ls hl => ?_)
      refine lv_goto (tgt := 6) hx hb dX1_write_47 (by decide) ?_
      exact ih_6 (i + 1) (ar k i) (done ++ bs) (by omega) H locs ls ⟨⟨by omega, by omega⟩, by rw [h3, rowL_step (by omega), wrC, e4, show fr + cnt - i - 1 = fr + cnt - (i + 1) by omega]; simp [Option.map_map, Function.comp_def], by simp; omega, h, lv_sub hl [2, 3, 4, 5, 6, 1, 0] rfl⟩
    · skip
      refine tI (y := nI 0) e3 ?_
      refine zN_ne (tgt := 38) (a := 0) C (by decide) dX1_write_33 (by decide) (fun q => absurd q (by decide)) (fun _ => ?_)
      refine lv_iconst (v := nI (0)) hx hb dX1_write_36 (by decide) ?_
      exact rZ C hr hlk h dX1_write_37 rfl (Nat.le_of_ble_eq_true rfl) (Nat.le_of_ble_eq_true rfl) (⟨done ++ bs, rfl, by simp; omega, Or.inr ⟨rfl, by rw [h3, rowL_step (by omega), wrC, e4]; rfl⟩⟩)
end
section
theorem rdL_none {cb ch cs cd n k p : Nat} {t : Nat → Nat} {b : Int32} (hk : 0 < k) (h : rdc cb ch t n p = none) : rdL cb ch cs cd t n k b p = .inr (1, p) := by
  obtain ⟨j, rfl⟩ : ∃ j, k = j + 1 := ⟨k - 1, by omega⟩
  unfold rdL
  rw [h]
theorem rdL_bad {cb ch cs cd n k p c q : Nat} {t : Nat → Nat} {b : Int32} (hk : 0 < k) (h : rdc cb ch t n p = some (c, q)) (h2 : nbO cs c = none) : rdL cb ch cs cd t n k b p = .inr (2, p) := by
  obtain ⟨j, rfl⟩ : ∃ j, k = j + 1 := ⟨k - 1, by omega⟩
  unfold rdL
  rw [h]
  simp only
  rw [h2]
theorem rdL_ok {cb ch cs cd n k p c q : Nat} {t : Nat → Nat} {b : Int32} {i : Int} (hk : 0 < k) (h : rdc cb ch t n p = some (c, q)) (h2 : nbO cs c = some i) : rdL cb ch cs cd t n k b p = rdPre [if cd = 1 then b + Int32.ofInt i else Int32.ofInt i] (rdL cb ch cs cd t n (k - 1) (if cd = 1 then b + Int32.ofInt i else Int32.ofInt i) q) := by
  obtain ⟨j, rfl⟩ : ∃ j, k = j + 1 := ⟨k - 1, by omega⟩
  conv => lhs; unfold rdL
  rw [h]
  simp only
  rw [h2]
  simp only [Nat.add_sub_cancel]
  cases rdL cb ch cs cd t n j (if cd = 1 then b + Int32.ofInt i else Int32.ofInt i) q <;> rfl
theorem rdPre_app (xs ys : List Int32) (o : (List Int32 × Nat) ⊕ (Nat × Nat)) : rdPre xs (rdPre ys o) = rdPre (xs ++ ys) o := by
  rcases o with ⟨zs, e⟩ | f
  · simp [rdPre]
  · rfl
/-- what a coding's read leaves -/
def rdQ (v : bV) (sc : Nat → Int32) (ar : Nat → Nat → Int32) (k fr : Nat) (o : (List Int32 × Nat) ⊕ (Nat × Nat)) (r : Int32) (u : bS) : Prop := match o with
  | .inl (xs, e) => r = 1 ∧ u = (v, va_up sc 6 (nI e), va_up ar k (wrR (ar k) fr xs))
  | .inr (f, q) => r = 0 ∧ ∃ (x : Int32) (g : Nat → Int32), u = (v, va_up (va_up (va_up sc 6 x) 7 (nI f)) 8 (nI q), va_up ar k g)
theorem rr_put {z : bZ} {v : bV} {sc : Nat → Int32} {ar : Nat → Nat → Int32} {s : State} {H : Heap} {locs : List Loc} {k fr i : Nat} {xs : List Int32} {x : Int32} (hi : i = fr + xs.length) (h : hH z v sc (va_up (va_up ar k (wrR (ar k) fr xs)) k (upd (va_up ar k (wrR (ar k) fr xs) k) i x)) s H locs) : hH z v sc (va_up ar k (wrR (ar k) fr (xs ++ [x]))) s H locs := by
  rw [va_uu, va_up_self, hi, wrR_snoc] at h
  exact h
theorem p256 {c k : Nat} (hk : k ≤ 5) (h : c < 256 ^ k) : c < 2 ^ 60 := Nat.lt_of_lt_of_le h (Nat.le_trans (Nat.pow_le_pow_right (by decide) hk) (by decide))
theorem gv_X1_46 : GoodIn uW (wsV RX1 46 RX1 yX1_readCode (Cond.code yX1_readCode cX1_readCode 8 (some .long) :: uW)) := gI_V (uW_of (by decide +kernel) rfl) (uW_of (by decide +kernel) rfl) (uW_of (by decide +kernel) rfl) (uW_of (by decide +kernel) rfl) (uW_of (by decide +kernel) rfl)
theorem gv_X1_46_n : okN yX1_readCode 1 := by decide +kernel
theorem gv_X1_52 : GoodIn uW (wsV RX1 52 RX7 yX7_fail (Cond.code yX7_fail cX7_fail 3 (some .boolean) :: uW)) := gI_V (uW_of (by decide +kernel) rfl) (uW_of (by decide +kernel) rfl) (uW_of (by decide +kernel) rfl) (uW_of (by decide +kernel) rfl) (uW_of (by decide +kernel) rfl)
theorem gv_X1_52_n : okN yX7_fail 2 := by decide +kernel
theorem gv_X1_56 : GoodIn uW (wsV RX1 56 RX1 yX1_numberOf (Cond.code yX1_numberOf cX1_numberOf 6 (some .long) :: uW)) := gI_V (uW_of (by decide +kernel) rfl) (uW_of (by decide +kernel) rfl) (uW_of (by decide +kernel) rfl) (uW_of (by decide +kernel) rfl) (uW_of (by decide +kernel) rfl)
theorem gv_X1_56_n : okN yX1_numberOf 1 := by decide +kernel
set_option maxHeartbeats 4000000 in
set_option maxRecDepth 100000 in
/-- Coding.read -/
theorem k_cRead (l : Launch) (z : bZ) (v : bV) (sc : Nat → Int32) (ar : Nat → Nat → Int32) (a cb ch cs cd n cu k fr cnt : Nat) (hw : cdW v a cb ch cs cd) (hn : sc 3 = nI n) (hn8 : n ≤ 8000) (hc : sc 6 = nI cu) (hcu : cu ≤ n) (hk : isA k = true) (hk11 : k ≠ 11) (hkL : aL k < 2 ^ 31) (hfc : fr + cnt ≤ aL k) : Met l yX1_read (Cond.code yX1_read cX1_read 13 (some .boolean) :: uW) { frames := 3, cells := 0, slots := 0, locals := 69 } (pC z v sc ar [.ref (a), .ref (zad z 1), .ref (zad z k), .int (nI (fr)), .int (nI (cnt))]) (qI z (fun r u => rdQ v sc ar k fr (rdL cb ch cs cd (bN (ar 11)) n cnt 0 cu) r u)) 0 0 (zA z) := by
  refine eM (by decide) (Nat.le_of_ble_eq_true rfl) ?_
  intro pP eE s mM below meth cC ls C hr hlk h hl
  have hx := C.1.1
  have hb := C.1.2.1
  have hl : lv_has ls 13 [(0, .ref (a)), (1, .ref (zad z 1)), (2, .ref (zad z k)), (3, .int (nI (fr))), (4, .int (nI (cnt)))] := hl
  obtain ⟨-, -, ⟨hB1, hB5⟩, ⟨hH1, hH2⟩, hS, hD⟩ := id hw
  refine lv_aload_n hx hb dX1_read_0 rfl (lv_at hl 1 rfl) ?_
  refine rg_X1_31 C h dX1_read_1 ?_
  refine lv_astore (lv' := [(5, .ref (zad z 2)), (0, .ref (a)), (1, .ref (zad z 1)), (2, .ref (zad z k)), (3, .int (nI (fr))), (4, .int (nI (cnt)))]) hx hb dX1_read_4 hl (by decide) rfl (fun ls hl => ?_)
  refine lv_iconst (v := nI (0)) hx hb dX1_read_6 (by decide) ?_
  refine lv_istore (lv' := [(6, .int (nI (0))), (5, .ref (zad z 2)), (0, .ref (a)), (1, .ref (zad z 1)), (2, .ref (zad z k)), (3, .int (nI (fr))), (4, .int (nI (cnt)))]) hx hb dX1_read_7 hl (by decide) rfl (fun ls hl => ?_)
  refine lv_iload_n hx hb dX1_read_9 rfl (lv_at hl 5 rfl) ?_
  refine lv_istore (lv' := [(7, .int (nI (fr))), (6, .int (nI (0))), (5, .ref (zad z 2)), (0, .ref (a)), (1, .ref (zad z 1)), (2, .ref (zad z k)), (3, .int (nI (fr))), (4, .int (nI (cnt)))]) hx hb dX1_read_10 hl (by decide) rfl (fun ls hl => ?_)
  refine lpW4 (fun (i : Nat) (bef : Int32) (p : Nat) (xs : List Int32) (H : Heap) (locs : List Loc) (ls : Array Slot) => (fr ≤ i ∧ i ≤ fr + cnt) ∧ (p ≤ n) ∧ (i = fr + xs.length) ∧ (rdL cb ch cs cd (bN (ar 11)) n cnt 0 cu = rdPre xs (rdL cb ch cs cd (bN (ar 11)) n (fr + cnt - i) bef p)) ∧ hH z v (va_up sc 6 (nI (p))) (va_up ar k (wrR (ar k) fr (xs))) s H locs ∧ lv_has ls 13 [(0, .ref (a)), (2, .ref (zad z k)), (3, .int (nI (fr))), (4, .int (nI (cnt))), (5, .ref (zad z 2)), (6, .int (bef)), (7, .int (nI (i)))]) (fun (i : Nat) (bef : Int32) (p : Nat) (xs : List Int32) => fr + cnt - i) (fun i bef p xs ih_12 H locs ls hI => ?_) (fr) (nI 0) (cu) ([]) ⟨⟨Nat.le_refl _, by omega⟩, hcu, rfl, by rw [show fr + cnt - fr = cnt by omega]; show _ = rdPre [] (rdL cb ch cs cd (bN (ar 11)) n cnt 0 cu); cases rdL cb ch cs cd (bN (ar 11)) n cnt 0 cu <;> rfl, (by rw [va_ue hc, wrR_nil, va_us]; exact h), lv_sub hl [3, 5, 6, 7, 2, 1, 0] rfl⟩
  obtain ⟨h1, h2, h5, h3, h, hl⟩ := hI
  have e11 : (va_up ar k (wrR (ar k) fr xs)) 11 = ar 11 := va_up_ne _ _ (Ne.symm hk11)
  refine lv_iload hx hb dX1_read_12 (lv_at hl 6 rfl) ?_
  refine lv_iload_n hx hb dX1_read_14 rfl (lv_at hl 2 rfl) ?_
  refine lv_iload hx hb dX1_read_15 (lv_at hl 3 rfl) ?_
  refine lv_iadd hx hb dX1_read_17 ?_
  refine tI (nI_add _ _) ?_
  refine jN_ge (tgt := 116) (a := i) (b := (fr) + (cnt)) C (by omega) (by omega) dX1_read_18 (by decide) (fun c_18 => ?_) (fun c_18 => ?_)
  · skip
    refine lv_iconst (v := nI (1)) hx hb dX1_read_116 (by decide) ?_
    exact rZ C hr hlk h dX1_read_117 rfl (Nat.le_of_ble_eq_true rfl) (Nat.le_of_ble_eq_true rfl) (have e : rdL cb ch cs cd (bN (ar 11)) n cnt 0 cu = .inl (xs, p) := by rw [h3, show fr + cnt - i = 0 by omega]; simp [rdL, rdPre]
      by rw [e]; exact ⟨rfl, rfl⟩)
  · skip
    refine lv_aload hx hb dX1_read_21 (lv_at hl 4 rfl) ?_
    refine rg_X1_41 C h dX1_read_23 ?_
    refine tI (y := nI (p)) rfl ?_
    refine lv_istore (lv' := [(8, .int (nI (p))), (0, .ref (a)), (2, .ref (zad z k)), (3, .int (nI (fr))), (4, .int (nI (cnt))), (5, .ref (zad z 2)), (6, .int (bef)), (7, .int (nI (i)))]) hx hb dX1_read_26 hl (by decide) rfl (fun ls hl => ?_)
    refine lv_aload_n hx hb dX1_read_28 rfl (lv_at hl 1 rfl) ?_
    refine lv_aload hx hb dX1_read_29 (lv_at hl 5 rfl) ?_
    refine backL h (runV (As := [.ref (zad z 2)]) (rest := []) C h (k_readCode l z v (va_up sc 6 (nI (p))) (va_up ar k (wrR (ar k) fr (xs))) a cb ch cs cd n p hw hn hn8 rfl h2) gv_X1_46 gv_X1_46_n ⟨rfl, rfl⟩ (r_Cod C h hw) rfl hl.1 rfl (Nat.le_of_ble_eq_true rfl) dX1_read_31 ⟨Nat.le_of_ble_eq_true rfl, Nat.le_of_ble_eq_true rfl⟩ ⟨Nat.le_of_ble_eq_true rfl, Nat.le_of_ble_eq_true rfl⟩) (fun r_31 v_31 sc_31 ar_31 H locs p_31 h => ?_)
    rw [e11] at p_31
    rcases hrd : rdc cb ch (bN (ar 11)) n p with _ | ⟨c0, q0⟩
    · skip
      obtain ⟨e1, x6, e2⟩ := p_31.2 hrd
      rw [va_uu] at e2
      have h : hH z v (va_up sc 6 (x6)) (va_up ar k (wrR (ar k) fr (xs))) s H locs := uEq e2 h
      refine tL (y := (-1 : Int64)) e1 ?_
      refine lv_lstore (lv' := [(9, .long ((-1 : Int64))), (8, .int (nI (p))), (0, .ref (a)), (2, .ref (zad z k)), (3, .int (nI (fr))), (4, .int (nI (cnt))), (5, .ref (zad z 2)), (6, .int (bef)), (7, .int (nI (i)))]) hx hb dX1_read_34 hl (by decide) rfl (fun ls hl => ?_)
      refine lv_lload hx hb dX1_read_36 (lv_at hl 0 rfl) ?_
      refine lv_ldc2 (v := -1) hx hb C.1.2.2.2.1 (C.1.2.2.2.2 _ uk_X1_50) dX1_read_38 ?_
      refine W.lcmp hx hb dX1_read_41 ?_
      refine lv_if_ne (tgt := 54) hx hb dX1_read_42 (by decide) (fun c_42 => ?_) (fun c_42 => ?_)
      · skip
        have c_42 : ¬ ((-1 : Int64)) = ((-1 : Int64)) := fun q => c_42 ((lg_cmp_eq _ _).mpr q)
        exact absurd rfl c_42
      · skip
        have c_42 := (lg_cmp_eq _ _).mp c_42
        refine lv_aload hx hb dX1_read_45 (lv_at hl 6 rfl) ?_
        refine lv_iconst (v := nI (1)) hx hb dX1_read_47 (by decide) ?_
        refine lv_iload hx hb dX1_read_48 (lv_at hl 1 rfl) ?_
        refine backI h (runV (As := [.int (nI (1)), .int (nI (p))]) (rest := []) C h (k_fail l z v (va_up sc 6 (x6)) (va_up ar k (wrR (ar k) fr (xs))) (nI 1) (nI p)) gv_X1_52 gv_X1_52_n ⟨rfl, rfl⟩ (r_Tape C h) rfl hl.1 rfl (Nat.le_of_ble_eq_true rfl) dX1_read_50 ⟨Nat.le_of_ble_eq_true rfl, Nat.le_of_ble_eq_true rfl⟩ ⟨Nat.le_of_ble_eq_true rfl, Nat.le_of_ble_eq_true rfl⟩) (fun r_50 v_50 sc_50 ar_50 H locs p_50 h => ?_)
        have h : hH z v (va_up (va_up (va_up sc 6 (x6)) 7 (nI (1))) 8 (nI (p))) (va_up ar k (wrR (ar k) fr (xs))) s H locs := uEq p_50.2 h
        refine tI (y := nI (0)) p_50.1 ?_
        exact rZ C hr hlk h dX1_read_53 rfl (Nat.le_of_ble_eq_true rfl) (Nat.le_of_ble_eq_true rfl) (have e : rdL cb ch cs cd (bN (ar 11)) n cnt 0 cu = .inr (1, p) := by rw [h3, rdL_none (by omega) hrd]; rfl
          by rw [e]; exact ⟨rfl, _, _, rfl⟩)
    · skip
      obtain ⟨e1, e2⟩ := p_31.1 _ _ hrd
      rw [va_uu] at e2
      have h : hH z v (va_up sc 6 (nI (q0))) (va_up ar k (wrR (ar k) fr (xs))) s H locs := uEq e2 h
      obtain ⟨hb1, hb2, hb3, hb4⟩ := rdc_bd hH2 (bN_lt (ar 11)) _ _ _ hrd
      have hc0 := p256 hB5 hb1
      have hq0 : q0 ≤ n := hb3 h2
      refine tL (y := lN c0) e1 ?_
      refine lv_lstore (lv' := [(9, .long (lN (c0))), (8, .int (nI (p))), (0, .ref (a)), (2, .ref (zad z k)), (3, .int (nI (fr))), (4, .int (nI (cnt))), (5, .ref (zad z 2)), (6, .int (bef)), (7, .int (nI (i)))]) hx hb dX1_read_34 hl (by decide) rfl (fun ls hl => ?_)
      refine lv_lload hx hb dX1_read_36 (lv_at hl 0 rfl) ?_
      refine lv_ldc2 (v := -1) hx hb C.1.2.2.2.1 (C.1.2.2.2.2 _ uk_X1_50) dX1_read_38 ?_
      refine W.lcmp hx hb dX1_read_41 ?_
      refine lv_if_ne (tgt := 54) hx hb dX1_read_42 (by decide) (fun c_42 => ?_) (fun c_42 => ?_)
      · skip
        have c_42 : ¬ (lN (c0)) = ((-1 : Int64)) := fun q => c_42 ((lg_cmp_eq _ _).mpr q)
        refine lv_aload_n hx hb dX1_read_54 rfl (lv_at hl 2 rfl) ?_
        refine lv_lload hx hb dX1_read_55 (lv_at hl 0 rfl) ?_
        refine backL h (runV (As := [.long (lN (c0))]) (rest := []) C h (k_numberOf l z v (va_up sc 6 (nI (q0))) (va_up ar k (wrR (ar k) fr (xs))) a cb ch cs cd c0 hw hc0) gv_X1_56 gv_X1_56_n ⟨rfl, rfl⟩ (r_Cod C h hw) rfl hl.1 rfl (Nat.le_of_ble_eq_true rfl) dX1_read_57 ⟨Nat.le_of_ble_eq_true rfl, Nat.le_of_ble_eq_true rfl⟩ ⟨Nat.le_of_ble_eq_true rfl, Nat.le_of_ble_eq_true rfl⟩) (fun r_57 v_57 sc_57 ar_57 H locs p_57 h => ?_)
        have h : hH z v (va_up sc 6 (nI (q0))) (va_up ar k (wrR (ar k) fr (xs))) s H locs := uEq p_57.2 h
        rcases hnb : nbO cs c0 with _ | i0
        · skip
          refine tL (y := lN 4294967296) (by rw [p_57.1, hnb]; rfl) ?_
          refine lv_lstore (lv' := [(11, .long (lN (4294967296))), (9, .long (lN (c0))), (8, .int (nI (p))), (0, .ref (a)), (2, .ref (zad z k)), (3, .int (nI (fr))), (4, .int (nI (cnt))), (5, .ref (zad z 2)), (6, .int (bef)), (7, .int (nI (i)))]) hx hb dX1_read_60 hl (by decide) rfl (fun ls hl => ?_)
          refine lv_lload hx hb dX1_read_62 (lv_at hl 0 rfl) ?_
          refine lv_ldc2 (v := 4294967296) hx hb C.1.2.2.2.1 (C.1.2.2.2.2 _ uk_X1_60) dX1_read_64 ?_
          refine tL (y := lN 4294967296) (by decide) ?_
          refine W.lcmp hx hb dX1_read_67 ?_
          refine lv_if_ne (tgt := 80) hx hb dX1_read_68 (by decide) (fun c_68 => ?_) (fun c_68 => ?_)
          · skip
            have c_68 : ¬ (4294967296) = (4294967296) := fun q => c_68 ((lg_cmp_eq _ _).mpr ((pk_lEQ (by omega) (by omega)).mpr q))
            exact absurd rfl c_68
          · skip
            have c_68 : (4294967296) = (4294967296) := (pk_lEQ (by omega) (by omega)).mp ((lg_cmp_eq _ _).mp c_68)
            refine lv_aload hx hb dX1_read_71 (lv_at hl 7 rfl) ?_
            refine lv_iconst (v := nI (2)) hx hb dX1_read_73 (by decide) ?_
            refine lv_iload hx hb dX1_read_74 (lv_at hl 2 rfl) ?_
            refine backI h (runV (As := [.int (nI (2)), .int (nI (p))]) (rest := []) C h (k_fail l z v (va_up sc 6 (nI (q0))) (va_up ar k (wrR (ar k) fr (xs))) (nI 2) (nI p)) gv_X1_52 gv_X1_52_n ⟨rfl, rfl⟩ (r_Tape C h) rfl hl.1 rfl (Nat.le_of_ble_eq_true rfl) dX1_read_76 ⟨Nat.le_of_ble_eq_true rfl, Nat.le_of_ble_eq_true rfl⟩ ⟨Nat.le_of_ble_eq_true rfl, Nat.le_of_ble_eq_true rfl⟩) (fun r_76 v_76 sc_76 ar_76 H locs p_76 h => ?_)
            have h : hH z v (va_up (va_up (va_up sc 6 (nI (q0))) 7 (nI (2))) 8 (nI (p))) (va_up ar k (wrR (ar k) fr (xs))) s H locs := uEq p_76.2 h
            refine tI (y := nI (0)) p_76.1 ?_
            exact rZ C hr hlk h dX1_read_79 rfl (Nat.le_of_ble_eq_true rfl) (Nat.le_of_ble_eq_true rfl) (have e : rdL cb ch cs cd (bN (ar 11)) n cnt 0 cu = .inr (2, p) := by rw [h3, rdL_bad (by omega) hrd hnb]; rfl
              by rw [e]; exact ⟨rfl, _, _, rfl⟩)
        · skip
          refine tL (y := Int64.ofInt i0) (by rw [p_57.1, hnb]; rfl) ?_
          refine lv_lstore (lv' := [(11, .long (Int64.ofInt i0)), (9, .long (lN (c0))), (8, .int (nI (p))), (0, .ref (a)), (2, .ref (zad z k)), (3, .int (nI (fr))), (4, .int (nI (cnt))), (5, .ref (zad z 2)), (6, .int (bef)), (7, .int (nI (i)))]) hx hb dX1_read_60 hl (by decide) rfl (fun ls hl => ?_)
          refine lv_lload hx hb dX1_read_62 (lv_at hl 0 rfl) ?_
          refine lv_ldc2 (v := 4294967296) hx hb C.1.2.2.2.1 (C.1.2.2.2.2 _ uk_X1_60) dX1_read_64 ?_
          refine tL (y := lN 4294967296) (by decide) ?_
          refine W.lcmp hx hb dX1_read_67 ?_
          refine lv_if_ne (tgt := 80) hx hb dX1_read_68 (by decide) (fun c_68 => ?_) (fun c_68 => ?_)
          · skip
            have c_68 : ¬ (Int64.ofInt i0) = (lN (4294967296)) := fun q => c_68 ((lg_cmp_eq _ _).mpr q)
            refine lv_aload_n hx hb dX1_read_80 rfl (lv_at hl 4 rfl) ?_
            refine lv_iload hx hb dX1_read_81 (lv_at hl 9 rfl) ?_
            refine lv_aload_n hx hb dX1_read_83 rfl (lv_at hl 3 rfl) ?_
            refine rw_X1_21 C h hw dX1_read_84 ?_
            refine lv_iconst (v := nI (1)) hx hb dX1_read_87 (by decide) ?_
            refine jN_ne (tgt := 100) (a := cd) (b := 1) C (by omega) (by omega) dX1_read_88 (by decide) (fun c_88 => ?_) (fun c_88 => ?_)
            · skip
              refine lv_lload hx hb dX1_read_100 (lv_at hl 0 rfl) ?_
              refine lv_l2i (v := if cd = 1 then bef + Int32.ofInt i0 else Int32.ofInt i0) hx hb dX1_read_102 (by rw [if_neg c_88]; exact nL_i i0) ?_
              refine stA k hk (j := i) (x := if cd = 1 then bef + Int32.ofInt i0 else Int32.ofInt i0) (by omega) hkL C h dX1_read_103 (fun H locs h => ?_)
              have h := rr_put h5 h
              refine lv_aload_n hx hb dX1_read_104 rfl (lv_at hl 4 rfl) ?_
              refine lv_iload hx hb dX1_read_105 (lv_at hl 9 rfl) ?_
              refine ldA k hk (j := i) (by omega) hkL C h dX1_read_107 ?_
              refine tI (y := if cd = 1 then bef + Int32.ofInt i0 else Int32.ofInt i0) (by rw [va_up_self, h5, wrR_last]) ?_
              refine lv_istore (lv' := [(6, .int (if cd = 1 then bef + Int32.ofInt i0 else Int32.ofInt i0)), (11, .long (Int64.ofInt i0)), (9, .long (lN (c0))), (8, .int (nI (p))), (0, .ref (a)), (2, .ref (zad z k)), (3, .int (nI (fr))), (4, .int (nI (cnt))), (5, .ref (zad z 2)), (7, .int (nI (i)))]) hx hb dX1_read_108 hl (by decide) rfl (fun ls hl => ?_)
              refine lv_iinc (v := nI (i + 1)) (lv' := [(7, .int (nI (i + 1))), (6, .int (if cd = 1 then bef + Int32.ofInt i0 else Int32.ofInt i0)), (11, .long (Int64.ofInt i0)), (9, .long (lN (c0))), (8, .int (nI (p))), (0, .ref (a)), (2, .ref (zad z k)), (3, .int (nI (fr))), (4, .int (nI (cnt))), (5, .ref (zad z 2))]) hx hb dX1_read_110 hl (k := 9) rfl (nN_inc _) (by decide) rfl (fun ls hl => ?_)
              refine lv_goto (tgt := 12) hx hb dX1_read_113 (by decide) ?_
              exact ih_12 (i + 1) (if cd = 1 then bef + Int32.ofInt i0 else Int32.ofInt i0) (q0) (xs ++ [if cd = 1 then bef + Int32.ofInt i0 else Int32.ofInt i0]) (by omega) H locs ls ⟨⟨by omega, by omega⟩, hq0, by simp; omega, by rw [h3, rdL_ok (by omega) hrd hnb, rdPre_app, show fr + cnt - i - 1 = fr + cnt - (i + 1) by omega], h, lv_sub hl [5, 6, 7, 8, 9, 1, 0] rfl⟩
            · skip
              refine lv_iload hx hb dX1_read_91 (lv_at hl 8 rfl) ?_
              refine lv_lload hx hb dX1_read_93 (lv_at hl 0 rfl) ?_
              refine lv_l2i (v := Int32.ofInt i0) hx hb dX1_read_95 (nL_i i0) ?_
              refine lv_iadd hx hb dX1_read_96 ?_
              refine tI (y := if cd = 1 then bef + Int32.ofInt i0 else Int32.ofInt i0) (by rw [if_pos c_88]) ?_
              refine lv_goto (tgt := 103) hx hb dX1_read_97 (by decide) ?_
              refine stA k hk (j := i) (x := if cd = 1 then bef + Int32.ofInt i0 else Int32.ofInt i0) (by omega) hkL C h dX1_read_103 (fun H locs h => ?_)
              have h := rr_put h5 h
              refine lv_aload_n hx hb dX1_read_104 rfl (lv_at hl 4 rfl) ?_
              refine lv_iload hx hb dX1_read_105 (lv_at hl 9 rfl) ?_
              refine ldA k hk (j := i) (by omega) hkL C h dX1_read_107 ?_
              refine tI (y := if cd = 1 then bef + Int32.ofInt i0 else Int32.ofInt i0) (by rw [va_up_self, h5, wrR_last]) ?_
              refine lv_istore (lv' := [(6, .int (if cd = 1 then bef + Int32.ofInt i0 else Int32.ofInt i0)), (11, .long (Int64.ofInt i0)), (9, .long (lN (c0))), (8, .int (nI (p))), (0, .ref (a)), (2, .ref (zad z k)), (3, .int (nI (fr))), (4, .int (nI (cnt))), (5, .ref (zad z 2)), (7, .int (nI (i)))]) hx hb dX1_read_108 hl (by decide) rfl (fun ls hl => ?_)
              refine lv_iinc (v := nI (i + 1)) (lv' := [(7, .int (nI (i + 1))), (6, .int (if cd = 1 then bef + Int32.ofInt i0 else Int32.ofInt i0)), (11, .long (Int64.ofInt i0)), (9, .long (lN (c0))), (8, .int (nI (p))), (0, .ref (a)), (2, .ref (zad z k)), (3, .int (nI (fr))), (4, .int (nI (cnt))), (5, .ref (zad z 2))]) hx hb dX1_read_110 hl (k := 9) rfl (nN_inc _) (by decide) rfl (fun ls hl => ?_)
              refine lv_goto (tgt := 12) hx hb dX1_read_113 (by decide) ?_
              exact ih_12 (i + 1) (if cd = 1 then bef + Int32.ofInt i0 else Int32.ofInt i0) (q0) (xs ++ [if cd = 1 then bef + Int32.ofInt i0 else Int32.ofInt i0]) (by omega) H locs ls ⟨⟨by omega, by omega⟩, hq0, by simp; omega, by rw [h3, rdL_ok (by omega) hrd hnb, rdPre_app, show fr + cnt - i - 1 = fr + cnt - (i + 1) by omega], h, lv_sub hl [5, 6, 7, 8, 9, 1, 0] rfl⟩
          · skip
            have c_68 := (lg_cmp_eq _ _).mp c_68
            exact absurd c_68 (nL64_ne hS hnb)
      · skip
        have c_42 := (lg_cmp_eq _ _).mp c_42
        exact absurd c_42 (lN_neg1 (by omega))
end
section
/-! The census: which numbers are in a row, how often each. -/
theorem shl1 : ∀ b : Nat, b ≤ 9 → nI 1 <<< (nI b &&& 31) = nI (2 ^ b) := by decide +kernel
theorem p29 {b : Nat} (h : b ≤ 9) : 2 ^ b ≤ 512 := Nat.pow_le_pow_right (by decide) h
def oI (o : Option Nat) : Int32 := match o with
  | some j => nI j
  | none => -1
/-- the first of the greatest of c 0 .. c (K - 1), if that is above 1; and how great -/
def mp (c : Nat → Nat) : Nat → Option Nat × Nat
  | 0 => (none, 1)
  | K + 1 => if (mp c K).2 < c K then (some K, c K) else mp c K
theorem mp_bd {c : Nat → Nat} {B : Nat} (hB : 1 ≤ B) : ∀ K, (∀ j, j < K → c j ≤ B) → 1 ≤ (mp c K).2 ∧ (mp c K).2 ≤ B
  | 0, _ => ⟨Nat.le_refl _, hB⟩
  | K + 1, h => by
    have := mp_bd hB K (fun j hj => h j (by omega))
    unfold mp
    split
    · have := h K (by omega)
      exact ⟨by simp only; omega, by simp only; omega⟩
    · exact this
theorem mp_in {c : Nat → Nat} : ∀ K j, (mp c K).1 = some j → j < K ∧ 1 < c j
  | 0, j, h => by simp [mp] at h
  | K + 1, j, h => by
    unfold mp at h
    split at h
    · rename_i q
      simp only [Option.some.injEq] at h
      subst h
      have h1 : 1 ≤ (mp c K).2 := by
        clear q
        induction K with
        | zero => exact Nat.le_refl _
        | succ K ih =>
          unfold mp
          split
          · simp only; omega
          · exact ih
      exact ⟨by omega, by omega⟩
    · have := mp_in K j h
      exact ⟨by omega, this.2⟩
/-- a tally: how often, or below 0 where it is a favourite -/
def tOK (T : Nat → Int32) (c : Nat → Nat) (j : Nat) : Prop := (T j = nI (c j) ∧ c j ≤ 1000) ∨ (c j = 0 ∧ T j < 0)
theorem tOK_le {T : Nat → Int32} {c : Nat → Nat} {j mo : Nat} (h : tOK T c j) (hm : mo < 2 ^ 31) : T j ≤ nI mo ↔ c j ≤ mo := by
  rcases h with ⟨h, h2⟩ | ⟨h, h2⟩
  · rw [h]; exact nI_leI (by omega) hm
  · refine ⟨fun _ => by omega, fun _ => ?_⟩
    have h3 := nI_toInt hm
    rw [Int32.le_iff_toInt_le, h3]
    rw [Int32.lt_iff_toInt_lt, show (0 : Int32).toInt = 0 from rfl] at h2
    omega
theorem tOK_bd {T : Nat → Int32} {c : Nat → Nat} {j : Nat} (h : tOK T c j) : c j ≤ 1000 := by
  rcases h with ⟨_, h⟩ | ⟨h, _⟩ <;> omega
theorem tOK_eq {T : Nat → Int32} {c : Nat → Nat} {j : Nat} (h : tOK T c j) (h2 : 0 < c j) : T j = nI (c j) := by
  rcases h with ⟨h, _⟩ | ⟨h, _⟩
  · exact h
  · omega
set_option maxHeartbeats 4000000 in
set_option maxRecDepth 100000 in
/-- Census.empty -/
theorem k_empty (l : Launch) (z : bZ) (v : bV) (sc : Nat → Int32) (ar : Nat → Nat → Int32) (cnt : Nat) (hc : cnt ≤ 400) : Met l yX0_empty (Cond.code yX0_empty cX0_empty 3 none :: uW) { frames := 0, cells := 0, slots := 0, locals := 0 } (pC z v sc ar [.ref (zad z 3), .int (nI (cnt))]) (qV z (fun u => ∃ (b : Nat) (sl : Nat → Int32), u = (v, va_up (va_up sc 9 (nI b)) 10 (nI 0), va_up ar 14 sl) ∧ 1 ≤ b ∧ b ≤ 9 ∧ cnt ≤ 2 ^ b ∧ ∀ q, q < 2 ^ b → sl q = nI 0)) 0 0 (zA z) := by
  refine eM (by decide) (Nat.le_of_ble_eq_true rfl) ?_
  intro pP eE s mM below meth cC ls C hr hlk h hl
  have hx := C.1.1
  have hb := C.1.2.1
  have hl : lv_has ls 3 [(0, .ref (zad z 3)), (1, .int (nI (cnt)))] := hl
  refine lv_aload_n hx hb dX0_empty_0 rfl (lv_at hl 0 rfl) ?_
  refine lv_iconst (v := nI (1)) hx hb dX0_empty_1 (by decide) ?_
  refine rp_X0_15 C h dX0_empty_2 (fun H locs h => ?_)
  refine lpW1 (fun (b : Nat) (H : Heap) (locs : List Loc) (ls : Array Slot) => (1 ≤ b ∧ b ≤ 9) ∧ hH z v (va_up sc 9 (nI (b))) ar s H locs ∧ lv_has ls 3 [(0, .ref (zad z 3)), (1, .int (nI (cnt)))]) (fun (b : Nat) => 9 - b) (fun b ih_5 H locs ls hI => ?_) (1) ⟨⟨by omega, by omega⟩, h, lv_sub hl [0, 1] rfl⟩
  obtain ⟨h1, h, hl⟩ := hI
  have hp := p29 h1.2
  refine lv_aload_n hx hb dX0_empty_5 rfl (lv_at hl 0 rfl) ?_
  refine rg_X0_15 C h dX0_empty_6 ?_
  refine tI (y := nI (b)) rfl ?_
  refine lv_bipush (v := nI (9)) hx hb dX0_empty_9 (by decide) ?_
  refine jN_ge (tgt := 39) (a := b) (b := 9) C (by omega) (by omega) dX0_empty_11 (by decide) (fun c_11 => ?_) (fun c_11 => ?_)
  · skip
    have hb2 : cnt ≤ 2 ^ b := by
      have : b = 9 := by omega
      subst this
      omega
    refine lv_iconst (v := nI (0)) hx hb dX0_empty_39 (by decide) ?_
    refine lv_istore_n (lv' := [(2, .int (nI (0))), (0, .ref (zad z 3)), (1, .int (nI (cnt)))]) hx hb dX0_empty_40 rfl hl (by decide) rfl (fun ls hl => ?_)
    refine lpW2 (fun (i : Nat) (sl : Nat → Int32) (H : Heap) (locs : List Loc) (ls : Array Slot) => (i ≤ 2 ^ b) ∧ (∀ q, q < i → sl q = nI 0) ∧ hH z v (va_up sc 9 (nI (b))) (va_up ar 14 sl) s H locs ∧ lv_has ls 3 [(0, .ref (zad z 3)), (2, .int (nI (i)))]) (fun (i : Nat) (sl : Nat → Int32) => 2 ^ b - i) (fun i sl ih_41 H locs ls hI => ?_) (0) (ar 14) ⟨Nat.zero_le _, fun _ q => absurd q (Nat.not_lt_zero _), (by rw [va_us]; exact h), lv_sub hl [1, 0] rfl⟩
    obtain ⟨h2, h3, h, hl⟩ := hI
    refine lv_iload_n hx hb dX0_empty_41 rfl (lv_at hl 1 rfl) ?_
    refine lv_iconst (v := nI (1)) hx hb dX0_empty_42 (by decide) ?_
    refine lv_aload_n hx hb dX0_empty_43 rfl (lv_at hl 0 rfl) ?_
    refine rg_X0_15 C h dX0_empty_44 ?_
    refine tI (y := nI (b)) rfl ?_
    refine lv_ishl hx hb dX0_empty_47 ?_
    refine tI (y := nI (2 ^ b)) (shl1 b (by omega)) ?_
    refine jN_ge (tgt := 64) (a := i) (b := 2 ^ b) C (by omega) (by omega) dX0_empty_48 (by decide) (fun c_48 => ?_) (fun c_48 => ?_)
    · skip
      refine lv_aload_n hx hb dX0_empty_64 rfl (lv_at hl 0 rfl) ?_
      refine lv_iconst (v := nI (0)) hx hb dX0_empty_65 (by decide) ?_
      refine rp_X0_25 C h dX0_empty_66 (fun H locs h => ?_)
      exact rV C hr hlk h dX0_empty_69 (Nat.le_of_ble_eq_true rfl) (Nat.le_of_ble_eq_true rfl) (⟨b, sl, rfl, h1.1, h1.2, hb2, fun q hq => h3 q (by omega)⟩)
    · skip
      refine lv_aload_n hx hb dX0_empty_51 rfl (lv_at hl 0 rfl) ?_
      refine rg_X0_11 C h dX0_empty_52 ?_
      refine lv_iload_n hx hb dX0_empty_55 rfl (lv_at hl 1 rfl) ?_
      refine lv_iconst (v := nI (0)) hx hb dX0_empty_56 (by decide) ?_
      refine stA 14 rfl (j := i) (x := nI (0)) (show i < 512 by omega) (by decide) C h dX0_empty_57 (fun H locs h => ?_)
      refine lv_iinc (v := nI (i + 1)) (lv' := [(2, .int (nI (i + 1))), (0, .ref (zad z 3))]) hx hb dX0_empty_58 hl (k := 1) rfl (nN_inc _) (by decide) rfl (fun ls hl => ?_)
      refine lv_goto (tgt := 41) hx hb dX0_empty_61 (by decide) ?_
      exact ih_41 (i + 1) (upd sl i (nI 0)) (by omega) H locs ls ⟨by omega, fun q hq => by unfold upd; split; rfl; exact h3 q (by omega), (by rw [va_uu] at h; exact h), lv_sub hl [1, 0] rfl⟩
  · skip
    refine lv_iconst (v := nI (1)) hx hb dX0_empty_14 (by decide) ?_
    refine lv_aload_n hx hb dX0_empty_15 rfl (lv_at hl 0 rfl) ?_
    refine rg_X0_15 C h dX0_empty_16 ?_
    refine tI (y := nI (b)) rfl ?_
    refine lv_ishl hx hb dX0_empty_19 ?_
    refine tI (y := nI (2 ^ b)) (shl1 b (by omega)) ?_
    refine lv_iconst (v := nI (2)) hx hb dX0_empty_20 (by decide) ?_
    refine lv_iload_n hx hb dX0_empty_21 rfl (lv_at hl 1 rfl) ?_
    refine lv_imul hx hb dX0_empty_22 ?_
    refine tI (pk_mul _ _) ?_
    refine jN_ge (tgt := 39) (a := 2 ^ b) (b := (2) * (cnt)) C (by omega) (by omega) dX0_empty_23 (by decide) (fun c_23 => ?_) (fun c_23 => ?_)
    · skip
      have hb2 : cnt ≤ 2 ^ b := by omega
      refine lv_iconst (v := nI (0)) hx hb dX0_empty_39 (by decide) ?_
      refine lv_istore_n (lv' := [(2, .int (nI (0))), (0, .ref (zad z 3)), (1, .int (nI (cnt)))]) hx hb dX0_empty_40 rfl hl (by decide) rfl (fun ls hl => ?_)
      refine lpW2 (fun (i : Nat) (sl : Nat → Int32) (H : Heap) (locs : List Loc) (ls : Array Slot) => (i ≤ 2 ^ b) ∧ (∀ q, q < i → sl q = nI 0) ∧ hH z v (va_up sc 9 (nI (b))) (va_up ar 14 sl) s H locs ∧ lv_has ls 3 [(0, .ref (zad z 3)), (2, .int (nI (i)))]) (fun (i : Nat) (sl : Nat → Int32) => 2 ^ b - i) (fun i sl ih_41 H locs ls hI => ?_) (0) (ar 14) ⟨Nat.zero_le _, fun _ q => absurd q (Nat.not_lt_zero _), (by rw [va_us]; exact h), lv_sub hl [1, 0] rfl⟩
      obtain ⟨h2, h3, h, hl⟩ := hI
      refine lv_iload_n hx hb dX0_empty_41 rfl (lv_at hl 1 rfl) ?_
      refine lv_iconst (v := nI (1)) hx hb dX0_empty_42 (by decide) ?_
      refine lv_aload_n hx hb dX0_empty_43 rfl (lv_at hl 0 rfl) ?_
      refine rg_X0_15 C h dX0_empty_44 ?_
      refine tI (y := nI (b)) rfl ?_
      refine lv_ishl hx hb dX0_empty_47 ?_
      refine tI (y := nI (2 ^ b)) (shl1 b (by omega)) ?_
      refine jN_ge (tgt := 64) (a := i) (b := 2 ^ b) C (by omega) (by omega) dX0_empty_48 (by decide) (fun c_48 => ?_) (fun c_48 => ?_)
      · skip
        refine lv_aload_n hx hb dX0_empty_64 rfl (lv_at hl 0 rfl) ?_
        refine lv_iconst (v := nI (0)) hx hb dX0_empty_65 (by decide) ?_
        refine rp_X0_25 C h dX0_empty_66 (fun H locs h => ?_)
        exact rV C hr hlk h dX0_empty_69 (Nat.le_of_ble_eq_true rfl) (Nat.le_of_ble_eq_true rfl) (⟨b, sl, rfl, h1.1, h1.2, hb2, fun q hq => h3 q (by omega)⟩)
      · skip
        refine lv_aload_n hx hb dX0_empty_51 rfl (lv_at hl 0 rfl) ?_
        refine rg_X0_11 C h dX0_empty_52 ?_
        refine lv_iload_n hx hb dX0_empty_55 rfl (lv_at hl 1 rfl) ?_
        refine lv_iconst (v := nI (0)) hx hb dX0_empty_56 (by decide) ?_
        refine stA 14 rfl (j := i) (x := nI (0)) (show i < 512 by omega) (by decide) C h dX0_empty_57 (fun H locs h => ?_)
        refine lv_iinc (v := nI (i + 1)) (lv' := [(2, .int (nI (i + 1))), (0, .ref (zad z 3))]) hx hb dX0_empty_58 hl (k := 1) rfl (nN_inc _) (by decide) rfl (fun ls hl => ?_)
        refine lv_goto (tgt := 41) hx hb dX0_empty_61 (by decide) ?_
        exact ih_41 (i + 1) (upd sl i (nI 0)) (by omega) H locs ls ⟨by omega, fun q hq => by unfold upd; split; rfl; exact h3 q (by omega), (by rw [va_uu] at h; exact h), lv_sub hl [1, 0] rfl⟩
    · skip
      refine lv_aload_n hx hb dX0_empty_26 rfl (lv_at hl 0 rfl) ?_
      refine lv_dup hx hb dX0_empty_27 rfl ?_
      refine rg_X0_15 C h dX0_empty_28 ?_
      refine tI (y := nI (b)) rfl ?_
      refine lv_iconst (v := nI (1)) hx hb dX0_empty_31 (by decide) ?_
      refine lv_iadd hx hb dX0_empty_32 ?_
      refine tI (nI_add _ _) ?_
      refine rp_X0_15 C h dX0_empty_33 (fun H locs h => ?_)
      refine lv_goto (tgt := 5) hx hb dX0_empty_36 (by decide) ?_
      exact ih_5 (b + 1) (by omega) H locs ls ⟨⟨by omega, by omega⟩, (by rw [va_uu] at h; exact h), lv_sub hl [0, 1] rfl⟩
set_option maxHeartbeats 4000000 in
set_option maxRecDepth 100000 in
/-- Census.mostFrequent -/
theorem k_mostFrequent (l : Launch) (z : bZ) (v : bV) (sc : Nat → Int32) (ar : Nat → Nat → Int32) (c0 : Nat → Nat) (K : Nat) (hK : sc 10 = nI K) (hK4 : K ≤ 400) (ht : ∀ j, j < K → tOK (ar 16) c0 j) : Met l yX0_mostFrequent (Cond.code yX0_mostFrequent cX0_mostFrequent 4 (some .int) :: uW) { frames := 0, cells := 0, slots := 0, locals := 0 } (pC z v sc ar [.ref (zad z 3)]) (qI z (fun r u => r = oI (mp c0 K).1 ∧ u = (v, sc, ar))) 0 0 (zA z) := by
  refine eM (by decide) (Nat.le_of_ble_eq_true rfl) ?_
  intro pP eE s mM below meth cC ls C hr hlk h hl
  have hx := C.1.1
  have hb := C.1.2.1
  have hl : lv_has ls 4 [(0, .ref (zad z 3))] := hl
  refine lv_iconst (v := (-1)) hx hb dX0_mostFrequent_0 (by decide) ?_
  refine lv_istore_n (lv' := [(1, .int ((-1))), (0, .ref (zad z 3))]) hx hb dX0_mostFrequent_1 rfl hl (by decide) rfl (fun ls hl => ?_)
  refine lv_iconst (v := nI (1)) hx hb dX0_mostFrequent_2 (by decide) ?_
  refine lv_istore_n (lv' := [(2, .int (nI (1))), (1, .int ((-1))), (0, .ref (zad z 3))]) hx hb dX0_mostFrequent_3 rfl hl (by decide) rfl (fun ls hl => ?_)
  refine lv_iconst (v := nI (0)) hx hb dX0_mostFrequent_4 (by decide) ?_
  refine lv_istore_n (lv' := [(3, .int (nI (0))), (2, .int (nI (1))), (1, .int ((-1))), (0, .ref (zad z 3))]) hx hb dX0_mostFrequent_5 rfl hl (by decide) rfl (fun ls hl => ?_)
  refine lpW3 (fun (i : Nat) (o : Option Nat) (mo : Nat) (H : Heap) (locs : List Loc) (ls : Array Slot) => (i ≤ K) ∧ (mp c0 i = (o, mo)) ∧ hH z v sc ar s H locs ∧ lv_has ls 4 [(0, .ref (zad z 3)), (1, .int (oI o)), (2, .int (nI (mo))), (3, .int (nI (i)))]) (fun (i : Nat) (o : Option Nat) (mo : Nat) => K - i) (fun i o mo ih_6 H locs ls hI => ?_) (0) (none) (1) ⟨Nat.zero_le _, rfl, h, lv_sub hl [3, 2, 1, 0] rfl⟩
  obtain ⟨h1, h3, h, hl⟩ := hI
  have hmo : mo ≤ 1000 := by have := (mp_bd (c := c0) (B := 1000) (by decide) i (fun j hj => tOK_bd (ht j (by omega)))).2; rw [h3] at this; exact this
  refine lv_iload_n hx hb dX0_mostFrequent_6 rfl (lv_at hl 3 rfl) ?_
  refine lv_aload_n hx hb dX0_mostFrequent_7 rfl (lv_at hl 0 rfl) ?_
  refine rg_X0_25 C h dX0_mostFrequent_8 ?_
  refine tI (y := nI (K)) hK ?_
  refine jN_ge (tgt := 39) (a := i) (b := K) C (by omega) (by omega) dX0_mostFrequent_11 (by decide) (fun c_11 => ?_) (fun c_11 => ?_)
  · skip
    refine lv_iload_n hx hb dX0_mostFrequent_39 rfl (lv_at hl 1 rfl) ?_
    exact rI C hr hlk h dX0_mostFrequent_40 (Nat.le_of_ble_eq_true rfl) (Nat.le_of_ble_eq_true rfl) (⟨by rw [show K = i by omega, h3], rfl⟩)
  · skip
    refine lv_aload_n hx hb dX0_mostFrequent_14 rfl (lv_at hl 0 rfl) ?_
    refine rg_X0_22 C h dX0_mostFrequent_15 ?_
    refine lv_iload_n hx hb dX0_mostFrequent_18 rfl (lv_at hl 3 rfl) ?_
    refine ldA 16 rfl (j := i) (show i < 400 by omega) (by decide) C h dX0_mostFrequent_19 ?_
    refine tI (y := (ar 16) (i)) rfl ?_
    refine lv_iload_n hx hb dX0_mostFrequent_20 rfl (lv_at hl 2 rfl) ?_
    refine lv_icmp_le (tgt := 33) hx hb dX0_mostFrequent_21 (by decide) (fun c_21 => ?_) (fun c_21 => ?_)
    · skip
      refine lv_iinc (v := nI (i + 1)) (lv' := [(3, .int (nI (i + 1))), (0, .ref (zad z 3)), (1, .int (oI o)), (2, .int (nI (mo)))]) hx hb dX0_mostFrequent_33 hl (k := 3) rfl (nN_inc _) (by decide) rfl (fun ls hl => ?_)
      refine lv_goto (tgt := 6) hx hb dX0_mostFrequent_36 (by decide) ?_
      exact ih_6 (i + 1) (o) (mo) (by omega) H locs ls ⟨by omega, by unfold mp; rw [h3]; exact if_neg (by have := (tOK_le (ht i (by omega)) (by omega)).mp c_21; simp only; omega), h, lv_sub hl [1, 2, 3, 0] rfl⟩
    · skip
      have hlt : mo < c0 i := Nat.not_le.mp (fun q => c_21 ((tOK_le (ht i (by omega)) (by omega)).mpr q))
      have e21 := tOK_eq (ht i (by omega)) (by omega)
      refine lv_iload_n hx hb dX0_mostFrequent_24 rfl (lv_at hl 3 rfl) ?_
      refine lv_istore_n (lv' := [(1, .int (nI (i))), (0, .ref (zad z 3)), (2, .int (nI (mo))), (3, .int (nI (i)))]) hx hb dX0_mostFrequent_25 rfl hl (by decide) rfl (fun ls hl => ?_)
      refine lv_aload_n hx hb dX0_mostFrequent_26 rfl (lv_at hl 1 rfl) ?_
      refine rg_X0_22 C h dX0_mostFrequent_27 ?_
      refine lv_iload_n hx hb dX0_mostFrequent_30 rfl (lv_at hl 3 rfl) ?_
      refine ldA 16 rfl (j := i) (show i < 400 by omega) (by decide) C h dX0_mostFrequent_31 ?_
      refine tI (y := nI (c0 i)) e21 ?_
      refine lv_istore_n (lv' := [(2, .int (nI (c0 i))), (1, .int (nI (i))), (0, .ref (zad z 3)), (3, .int (nI (i)))]) hx hb dX0_mostFrequent_32 rfl hl (by decide) rfl (fun ls hl => ?_)
      refine lv_iinc (v := nI (i + 1)) (lv' := [(3, .int (nI (i + 1))), (2, .int (nI (c0 i))), (1, .int (nI (i))), (0, .ref (zad z 3))]) hx hb dX0_mostFrequent_33 hl (k := 3) rfl (nN_inc _) (by decide) rfl (fun ls hl => ?_)
      refine lv_goto (tgt := 6) hx hb dX0_mostFrequent_36 (by decide) ?_
      exact ih_6 (i + 1) (some i) (c0 i) (by omega) H locs ls ⟨by omega, by unfold mp; rw [h3]; exact if_pos hlt, h, lv_sub hl [3, 2, 1, 0] rfl⟩
end
section
/-- the favourites, as places: the most frequent first -/
def fv (c : Nat → Nat) (K : Nat) : Nat → List Nat
  | 0 => []
  | m + 1 => match (mp c K).1 with
    | none => []
    | some j => j :: fv (va_up c j 0) K m
theorem fv_0 (c : Nat → Nat) (K : Nat) : fv c K 0 = [] := rfl
theorem fv_none {c : Nat → Nat} {K : Nat} (h : (mp c K).1 = none) : ∀ m, fv c K m = []
  | 0 => rfl
  | m + 1 => by unfold fv; rw [h]
theorem fv_some {c : Nat → Nat} {K m j : Nat} (hm : 0 < m) (h : (mp c K).1 = some j) : fv c K m = j :: fv (va_up c j 0) K (m - 1) := by
  obtain ⟨q, rfl⟩ : ∃ q, m = q + 1 := ⟨m - 1, by omega⟩
  conv => lhs; unfold fv
  rw [h]
  rfl
theorem idx_cons (a b : Nat) (l : List Nat) : (a :: l).idxOf b = if a = b then 0 else l.idxOf b + 1 := by
  by_cases h : a = b
  · rw [if_pos h]; simp [List.idxOf, List.findIdx_cons, h]
  · rw [if_neg h]; simp [List.idxOf, List.findIdx_cons, beq_eq_false_iff_ne.mpr h]
theorem idx_new {j : Nat} : ∀ {js : List Nat}, j ∉ js → (js ++ [j]).idxOf j = js.length
  | [], _ => by simp [idx_cons]
  | a :: l, h => by
    rw [List.cons_append, idx_cons, if_neg (fun q => h (by simp [q])), idx_new (fun q => h (by simp [q]))]
    simp
theorem idx_old {j x : Nat} : ∀ {js : List Nat}, j ∈ js → (js ++ [x]).idxOf j = js.idxOf j
  | [], h => absurd h List.not_mem_nil
  | a :: l, h => by
    rw [List.cons_append, idx_cons, idx_cons]
    by_cases q : a = j
    · rw [if_pos q, if_pos q]
    · rw [if_neg q, if_neg q, idx_old ((List.mem_cons.mp h).elim (fun e => absurd e.symm q) (fun e => e))]
def tlA (T : Nat → Int32) (js : List Nat) : Nat → Int32 := fun j => if j ∈ js then -(nI (js.idxOf j + 1)) else T j
theorem tlA_nil (T : Nat → Int32) : tlA T [] = T := by funext j; simp [tlA]
theorem tlA_snoc {T : Nat → Int32} {js : List Nat} {j0 : Nat} (h : j0 ∉ js) : upd (tlA T js) j0 (-(nI (js.length + 1))) = tlA T (js ++ [j0]) := by
  funext j
  unfold upd tlA
  by_cases hj : j = j0
  · subst hj
    rw [if_pos rfl, if_pos (by simp), idx_new h]
  · rw [if_neg hj]
    by_cases hm : j ∈ js
    · rw [if_pos hm, if_pos (by simp [hm]), idx_old hm]
    · rw [if_neg hm, if_neg (by simp [hm, hj])]
theorem wrR_0 (f : Nat → Int32) (xs : List Int32) (x : Int32) : upd (wrR f 1 xs) 0 x = wrR f 0 (x :: xs) := by
  funext j
  unfold upd wrR
  by_cases hj : j = 0
  · subst hj
    rw [if_pos rfl, if_pos (by simp)]
    simp
  · rw [if_neg hj]
    obtain ⟨i, rfl⟩ : ∃ i, j = i + 1 := ⟨j - 1, by omega⟩
    by_cases h : i + 1 < 1 + xs.length
    · rw [if_pos (by omega), if_pos (by simp; omega)]
      simp
    · rw [if_neg (by omega), if_neg (by simp; omega)]
theorem nneg {q : Nat} (h0 : 0 < q) (h : q < 2 ^ 31) : -(nI q) < (0 : Int32) := by
  rw [Int32.lt_iff_toInt_lt, sb_negT h]
  show -(q : Int) < 0
  omega
theorem tOK_up {T : Nat → Int32} {c : Nat → Nat} {j0 q j : Nat} (h : tOK T c j) (h0 : 0 < q) (hq : q < 2 ^ 31) : tOK (upd T j0 (-(nI q))) (va_up c j0 0) j := by
  by_cases hj : j = j0
  · subst hj
    exact Or.inr ⟨va_up_self _ _ _, by rw [pk_us]; exact nneg h0 hq⟩
  · unfold tOK
    rw [va_up_ne _ _ hj, pk_un hj]
    exact h
theorem put_k {ar : Nat → Nat → Int32} {k q a : Nat} {g T : Nat → Int32} {x : Int32} (hkq : k ≠ q) : va_up (va_up (va_up ar k g) q T) k (upd (va_up (va_up ar k g) q T k) a x) = va_up (va_up ar k (upd g a x)) q T := by
  rw [va_up_ne _ _ hkq, va_up_self]
  funext j
  unfold va_up
  by_cases h1 : j = k
  · rw [if_pos h1, if_neg (by omega), if_pos h1]
  · rw [if_neg h1]
    by_cases h2 : j = q
    · rw [if_pos h2, if_pos h2]
    · rw [if_neg h2, if_neg h2, if_neg h1, if_neg h1]
theorem put_q {ar : Nat → Nat → Int32} {k q a : Nat} {g T : Nat → Int32} {x : Int32} : va_up (va_up (va_up ar k g) q T) q (upd (va_up (va_up ar k g) q T q) a x) = va_up (va_up ar k g) q (upd T a x) := by
  rw [va_uu, va_up_self]
theorem gv_X0_55 : GoodIn uW (wsV RX0 55 RX0 yX0_mostFrequent (Cond.code yX0_mostFrequent cX0_mostFrequent 4 (some .int) :: uW)) := gI_V (uW_of (by decide +kernel) rfl) (uW_of (by decide +kernel) rfl) (uW_of (by decide +kernel) rfl) (uW_of (by decide +kernel) rfl) (uW_of (by decide +kernel) rfl)
theorem gv_X0_55_n : okN yX0_mostFrequent 0 := by decide +kernel
set_option maxHeartbeats 4000000 in
set_option maxRecDepth 100000 in
/-- Census.chooseFavourites -/
theorem k_chooseFav (l : Launch) (z : bZ) (v : bV) (sc : Nat → Int32) (ar : Nat → Nat → Int32) (c0 : Nat → Nat) (K m k : Nat) (hK : sc 10 = nI K) (hK4 : K ≤ 400) (ht : ∀ j, j < K → tOK (ar 16) c0 j) (hm : m ≤ 50) (hk : isA k = true) (hkl : aL k = 51) (hk15 : k ≠ 15) (hk16 : k ≠ 16) : Met l yX0_chooseFavourites (Cond.code yX0_chooseFavourites cX0_chooseFavourites 5 none :: uW) { frames := 1, cells := 0, slots := 0, locals := 23 } (pC z v sc ar [.ref (zad z 3), .int (nI (m)), .ref (zad z k)]) (qV z (fun u => u = (v, sc, va_up (va_up ar k (wrR (ar k) 0 (nI (fv c0 K m).length :: (fv c0 K m).map (ar 15)))) 16 (tlA (ar 16) (fv c0 K m))))) 0 0 (zA z) := by
  refine eM (by decide) (Nat.le_of_ble_eq_true rfl) ?_
  intro pP eE s mM below meth cC ls C hr hlk h hl
  have hx := C.1.1
  have hb := C.1.2.1
  have hl : lv_has ls 5 [(0, .ref (zad z 3)), (1, .int (nI (m))), (2, .ref (zad z k))] := hl
  refine lv_iconst (v := nI (0)) hx hb dX0_chooseFavourites_0 (by decide) ?_
  refine lv_istore_n (lv' := [(3, .int (nI (0))), (0, .ref (zad z 3)), (1, .int (nI (m))), (2, .ref (zad z k))]) hx hb dX0_chooseFavourites_1 rfl hl (by decide) rfl (fun ls hl => ?_)
  refine lv_aload_n hx hb dX0_chooseFavourites_2 rfl (lv_at hl 1 rfl) ?_
  refine backI h (runV (As := []) (rest := []) C h (k_mostFrequent l z v sc ar c0 K hK hK4 ht) gv_X0_55 gv_X0_55_n ⟨rfl, rfl⟩ (r_Census C h) rfl hl.1 rfl (Nat.le_of_ble_eq_true rfl) dX0_chooseFavourites_3 ⟨Nat.le_of_ble_eq_true rfl, Nat.le_of_ble_eq_true rfl⟩ ⟨Nat.le_of_ble_eq_true rfl, Nat.le_of_ble_eq_true rfl⟩) (fun r_3 v_3 sc_3 ar_3 H locs p_3 h => ?_)
  have h : hH z v sc ar s H locs := uEq p_3.2 h
  refine tI (y := oI (mp c0 K).1) p_3.1 ?_
  refine lv_istore (lv' := [(4, .int (oI (mp c0 K).1)), (3, .int (nI (0))), (0, .ref (zad z 3)), (1, .int (nI (m))), (2, .ref (zad z k))]) hx hb dX0_chooseFavourites_6 hl (by decide) rfl (fun ls hl => ?_)
  refine lpW6 (fun (kn : Nat) (cc : Nat → Nat) (js : List Nat) (g : Nat → Int32) (T : Nat → Int32) (o : Option Nat) (H : Heap) (locs : List Loc) (ls : Array Slot) => (kn ≤ m ∧ kn = js.length) ∧ (∀ j, j < K → tOK T cc j) ∧ (o = (mp cc K).1) ∧ (fv c0 K m = js ++ fv cc K (m - kn)) ∧ (g = wrR (ar k) 1 (js.map (ar 15))) ∧ (T = tlA (ar 16) js) ∧ (∀ j, j ∈ js → cc j = 0) ∧ hH z v sc (va_up (va_up ar k (g)) 16 (T)) s H locs ∧ lv_has ls 5 [(0, .ref (zad z 3)), (1, .int (nI (m))), (2, .ref (zad z k)), (3, .int (nI (kn))), (4, .int (oI o))]) (fun (kn : Nat) (cc : Nat → Nat) (js : List Nat) (g : Nat → Int32) (T : Nat → Int32) (o : Option Nat) => m - kn) (fun kn cc js g T o ih_8 H locs ls hI => ?_) (0) (c0) ([]) (ar k) (ar 16) ((mp c0 K).1) ⟨⟨Nat.zero_le _, rfl⟩, ht, rfl, rfl, by rw [List.map_nil, wrR_nil], (tlA_nil _).symm, fun _ q => absurd q List.not_mem_nil, (by rw [va_us ar k, va_us ar 16]; exact h), lv_sub hl [2, 3, 4, 1, 0] rfl⟩
  obtain ⟨h1, h2, ho, h3, h4, h5, h6, h, hl⟩ := hI
  refine lv_iload_n hx hb dX0_chooseFavourites_8 rfl (lv_at hl 3 rfl) ?_
  refine lv_iload_n hx hb dX0_chooseFavourites_9 rfl (lv_at hl 1 rfl) ?_
  refine jN_ge (tgt := 50) (a := kn) (b := m) C (by omega) (by omega) dX0_chooseFavourites_10 (by decide) (fun c_10 => ?_) (fun c_10 => ?_)
  · skip
    have hfin : fv cc K (m - kn) = [] := by rw [show m - kn = 0 by omega]; rfl
    refine lv_aload_n hx hb dX0_chooseFavourites_50 rfl (lv_at hl 2 rfl) ?_
    refine lv_iconst (v := nI (0)) hx hb dX0_chooseFavourites_51 (by decide) ?_
    refine lv_iload_n hx hb dX0_chooseFavourites_52 rfl (lv_at hl 3 rfl) ?_
    refine stA k hk (j := 0) (x := nI (kn)) (by rw [hkl]; omega) (by rw [hkl]; decide) C h dX0_chooseFavourites_53 (fun H locs h => ?_)
    rw [put_k hk16, h4, wrR_0, h5] at h
    have hjs : fv c0 K m = js := by rw [h3, hfin, List.append_nil]
    rw [← hjs] at h
    rw [h1.2, ← hjs] at h
    exact rV C hr hlk h dX0_chooseFavourites_54 (Nat.le_of_ble_eq_true rfl) (Nat.le_of_ble_eq_true rfl) (rfl)
  · skip
    refine lv_iload hx hb dX0_chooseFavourites_13 (lv_at hl 4 rfl) ?_
    refine lv_iconst (v := (-1)) hx hb dX0_chooseFavourites_15 (by decide) ?_
    refine lv_icmp_eq (tgt := 50) hx hb dX0_chooseFavourites_16 (by decide) (fun c_16 => ?_) (fun c_16 => ?_)
    · skip
      have hfin : fv cc K (m - kn) = [] := by
        apply fv_none
        rw [← ho]
        rcases o with _ | j
        · rfl
        · have := mp_in K j ho.symm
          exact absurd c_16 (nI_neg1 (by omega))
      refine lv_aload_n hx hb dX0_chooseFavourites_50 rfl (lv_at hl 2 rfl) ?_
      refine lv_iconst (v := nI (0)) hx hb dX0_chooseFavourites_51 (by decide) ?_
      refine lv_iload_n hx hb dX0_chooseFavourites_52 rfl (lv_at hl 3 rfl) ?_
      refine stA k hk (j := 0) (x := nI (kn)) (by rw [hkl]; omega) (by rw [hkl]; decide) C h dX0_chooseFavourites_53 (fun H locs h => ?_)
      rw [put_k hk16, h4, wrR_0, h5] at h
      have hjs : fv c0 K m = js := by rw [h3, hfin, List.append_nil]
      rw [← hjs] at h
      rw [h1.2, ← hjs] at h
      exact rV C hr hlk h dX0_chooseFavourites_54 (Nat.le_of_ble_eq_true rfl) (Nat.le_of_ble_eq_true rfl) (rfl)
    · skip
      obtain ⟨j0, rfl⟩ : ∃ j0, o = some j0 := by
        rcases o with _ | j
        · exact absurd rfl c_16
        · exact ⟨j, rfl⟩
      have hj0 := mp_in K j0 ho.symm
      have hnj : j0 ∉ js := fun q => by have := h6 j0 q; omega
      have hl : lv_has ls 5 [(0, .ref (zad z 3)), (1, .int (nI (m))), (2, .ref (zad z k)), (3, .int (nI (kn))), (4, .int (nI (j0)))] := hl
      refine lv_iinc (v := nI (kn + 1)) (lv' := [(3, .int (nI (kn + 1))), (0, .ref (zad z 3)), (1, .int (nI (m))), (2, .ref (zad z k)), (4, .int (nI (j0)))]) hx hb dX0_chooseFavourites_19 hl (k := 3) rfl (nN_inc _) (by decide) rfl (fun ls hl => ?_)
      refine lv_aload_n hx hb dX0_chooseFavourites_22 rfl (lv_at hl 3 rfl) ?_
      refine lv_iload_n hx hb dX0_chooseFavourites_23 rfl (lv_at hl 0 rfl) ?_
      refine lv_aload_n hx hb dX0_chooseFavourites_24 rfl (lv_at hl 1 rfl) ?_
      refine rg_X0_19 C h dX0_chooseFavourites_25 ?_
      refine lv_iload hx hb dX0_chooseFavourites_28 (lv_at hl 4 rfl) ?_
      refine ldA 15 rfl (j := j0) (show j0 < 400 by omega) (by decide) C h dX0_chooseFavourites_30 ?_
      refine tI (y := ar 15 j0) (by rw [va_up_ne _ _ (by decide), va_up_ne _ _ (Ne.symm hk15)]) ?_
      refine stA k hk (j := kn + 1) (x := ar 15 j0) (by rw [hkl]; omega) (by rw [hkl]; decide) C h dX0_chooseFavourites_31 (fun H locs h => ?_)
      rw [put_k hk16] at h
      have h : hH z v sc (va_up (va_up ar k (upd g (kn + 1) (ar 15 j0))) 16 (T)) s H locs := h
      refine lv_aload_n hx hb dX0_chooseFavourites_32 rfl (lv_at hl 1 rfl) ?_
      refine rg_X0_22 C h dX0_chooseFavourites_33 ?_
      refine lv_iload hx hb dX0_chooseFavourites_36 (lv_at hl 4 rfl) ?_
      refine lv_iload_n hx hb dX0_chooseFavourites_38 rfl (lv_at hl 0 rfl) ?_
      refine lv_ineg hx hb dX0_chooseFavourites_39 ?_
      refine stA 16 rfl (j := j0) (x := -(nI (kn + 1))) (show j0 < 400 by omega) (by decide) C h dX0_chooseFavourites_40 (fun H locs h => ?_)
      rw [put_q] at h
      have h : hH z v sc (va_up (va_up ar k (upd g (kn + 1) (ar 15 j0))) 16 (upd T j0 (-(nI (kn + 1))))) s H locs := h
      refine lv_aload_n hx hb dX0_chooseFavourites_41 rfl (lv_at hl 1 rfl) ?_
      refine backI h (runV (As := []) (rest := []) C h (k_mostFrequent l z v sc (va_up (va_up ar k (upd g (kn + 1) (ar 15 j0))) 16 (upd T j0 (-(nI (kn + 1))))) (va_up cc j0 0) K hK hK4 (fun j hj => tOK_up (h2 j hj) (by omega) (by omega))) gv_X0_55 gv_X0_55_n ⟨rfl, rfl⟩ (r_Census C h) rfl hl.1 rfl (Nat.le_of_ble_eq_true rfl) dX0_chooseFavourites_42 ⟨Nat.le_of_ble_eq_true rfl, Nat.le_of_ble_eq_true rfl⟩ ⟨Nat.le_of_ble_eq_true rfl, Nat.le_of_ble_eq_true rfl⟩) (fun r_42 v_42 sc_42 ar_42 H locs p_42 h => ?_)
      have h : hH z v sc (va_up (va_up ar k (upd g (kn + 1) (ar 15 j0))) 16 (upd T j0 (-(nI (kn + 1))))) s H locs := uEq p_42.2 h
      refine tI (y := oI (mp (va_up cc j0 0) K).1) p_42.1 ?_
      refine lv_istore (lv' := [(4, .int (oI (mp (va_up cc j0 0) K).1)), (3, .int (nI (kn + 1))), (0, .ref (zad z 3)), (1, .int (nI (m))), (2, .ref (zad z k))]) hx hb dX0_chooseFavourites_45 hl (by decide) rfl (fun ls hl => ?_)
      refine lv_goto (tgt := 8) hx hb dX0_chooseFavourites_47 (by decide) ?_
      exact ih_8 (kn + 1) (va_up cc j0 0) (js ++ [j0]) (upd g (kn + 1) (ar 15 j0)) (upd T j0 (-(nI (kn + 1)))) ((mp (va_up cc j0 0) K).1) (by omega) H locs ls ⟨⟨by omega, by simp; omega⟩, fun j hj => tOK_up (h2 j hj) (by omega) (by omega), rfl, by rw [h3, fv_some (by omega) ho.symm, show m - kn - 1 = m - (kn + 1) by omega]; simp, by rw [h4, List.map_append, List.map_cons, List.map_nil, ← wrR_snoc, List.length_map, h1.2, Nat.add_comm], by rw [h5, h1.2]; exact tlA_snoc hnj, fun j hj => by by_cases q : j = j0; rw [q, va_up_self]; rw [va_up_ne _ _ q]; exact h6 j ((List.mem_append.mp hj).elim (fun q => q) (fun q2 => absurd (List.mem_singleton.mp q2) q)), h, lv_sub hl [2, 3, 4, 1, 0] rfl⟩
end
section
theorem pigeon : ∀ (N K : Nat) (f : Nat → Nat), (∀ q, q < N → f q < K) → (∀ q r, q < N → r < N → f q = f r → q = r) → N ≤ K
  | 0, K, _, _, _ => Nat.zero_le K
  | N + 1, K, f, h, hi => by
    have hN := h N (by omega)
    have key := pigeon N (K - 1) (fun q => if f q = K - 1 then f N else f q) (fun q hq => by
      have h1 := h q (by omega)
      have h2 : f q ≠ f N := fun e => by have := hi q N (by omega) (by omega) e; omega
      show (if f q = K - 1 then f N else f q) < K - 1
      split <;> omega) (fun q r hq hr e => by
      have h1 : f q ≠ f N := fun e => by have := hi q N (by omega) (by omega) e; omega
      have h2 : f r ≠ f N := fun e => by have := hi r N (by omega) (by omega) e; omega
      have e : (if f q = K - 1 then f N else f q) = (if f r = K - 1 then f N else f r) := e
      split at e <;> split at e
      · rename_i a1 a2
        exact hi q r (by omega) (by omega) (a1.trans a2.symm)
      · exact absurd e.symm h2
      · exact absurd e h1
      · exact hi q r (by omega) (by omega) e)
    omega
/-- where a number is looked for first -/
def hs (b : Nat) (x : Int32) : Nat := (x * (-1640531535)).toBitVec.toNat / 2 ^ (32 - b)
theorem hs_lt {b : Nat} (x : Int32) (hb : b ≤ 9) : hs b x < 2 ^ b := by
  unfold hs
  have h1 : (x * (-1640531535)).toBitVec.toNat < 2 ^ 32 := (x * (-1640531535)).toBitVec.isLt
  apply Nat.div_lt_of_lt_mul
  rw [← Nat.pow_add, show 32 - b + b = 32 by omega]
  exact h1
theorem sh_u : ∀ n, n < 32 → (((nI n).toUInt32 &&& Int32.toUInt32 31).toBitVec % 32).toNat = n := by decide +kernel
theorem hs_eq {b : Nat} {x : Int32} (h1 : 1 ≤ b) (h9 : b ≤ 9) : ((x * (-1640531535)).toUInt32 >>> ((nI (32 - b)).toUInt32 &&& Int32.toUInt32 31)).toInt32 = nI (hs b x) := by
  apply Int32.toBitVec_inj.mp
  apply BitVec.eq_of_toNat_eq
  have hl : hs b x < 2 ^ 32 := Nat.lt_of_lt_of_le (hs_lt x h9) (Nat.pow_le_pow_right (by decide) (by omega))
  rw [pk_tn hl]
  exact pk_ushr _ _ (32 - b) (sh_u _ (by omega))
/-- the slots tell where the kinds are -/
def slI (b : Nat) (sl kd : Nat → Int32) (K : Nat) : Prop := (∀ q, q < 2 ^ b → ∃ r, r ≤ K ∧ sl q = nI r) ∧ (∀ q q' r, q < 2 ^ b → q' < 2 ^ b → 0 < r → r ≤ K → sl q = nI r → sl q' = nI r → q = q') ∧ (∀ j, j < K → ∃ d, d < 2 ^ b ∧ sl ((hs b (kd j) + d) % 2 ^ b) = nI (j + 1) ∧ ∀ t, t < d → ¬ sl ((hs b (kd j) + t) % 2 ^ b) = nI 0) ∧ ∀ i j, i < K → j < K → kd i = kd j → i = j
theorem slI_0 {b : Nat} {sl kd : Nat → Int32} (h : ∀ q, q < 2 ^ b → sl q = nI 0) : slI b sl kd 0 := ⟨fun q hq => ⟨0, Nat.le_refl _, h q hq⟩, fun _ _ r _ _ h1 h2 => by omega, fun _ h => absurd h (Nat.not_lt_zero _), fun _ _ h => absurd h (Nat.not_lt_zero _)⟩
theorem slI_free {b : Nat} {sl kd : Nat → Int32} {K : Nat} (h : slI b sl kd K) (hK : K < 2 ^ b) (hK4 : K ≤ 400) : ∃ q, q < 2 ^ b ∧ sl q = nI 0 := by
  by_cases hex : ∃ q, q < 2 ^ b ∧ sl q = nI 0
  · exact hex
  · exfalso
    have hr : ∀ q, ∃ r, q < 2 ^ b → (1 ≤ r ∧ r ≤ K ∧ sl q = nI r) := fun q => by
      by_cases hq : q < 2 ^ b
      · obtain ⟨r, h1, h2⟩ := h.1 q hq
        refine ⟨r, fun _ => ⟨?_, h1, h2⟩⟩
        rcases Nat.eq_zero_or_pos r with e | e
        · exact absurd ⟨q, hq, by rw [h2, e]⟩ hex
        · exact e
      · exact ⟨0, fun q' => absurd q' hq⟩
    have hc := fun q => Classical.choose_spec (hr q)
    have := pigeon (2 ^ b) K (fun q => Classical.choose (hr q) - 1) (fun q hq => by have := hc q hq; show Classical.choose (hr q) - 1 < K; omega) (fun q r hq hr' e => by
      have h1 := hc q hq
      have h2 := hc r hr'
      have e : Classical.choose (hr q) - 1 = Classical.choose (hr r) - 1 := e
      have e2 : Classical.choose (hr q) = Classical.choose (hr r) := by omega
      exact h.2.1 q r _ hq hr' (by omega) h1.2.1 h1.2.2 (by rw [e2]; exact h2.2.2))
    omega
theorem cyc {N a q : Nat} (ha : a < N) (hq : q < N) : ∃ t, t < N ∧ (a + t) % N = q := by
  by_cases h : a ≤ q
  · exact ⟨q - a, by omega, by rw [show a + (q - a) = q by omega]; exact Nat.mod_eq_of_lt hq⟩
  · exact ⟨q + N - a, by omega, by rw [show a + (q + N - a) = q + N by omega, Nat.add_mod_right]; exact Nat.mod_eq_of_lt hq⟩
theorem slI_new {b : Nat} {sl kd : Nat → Int32} {K t : Nat} {x : Int32} (h : slI b sl kd K) (hK4 : K < 400) (hN : 0 < 2 ^ b) (ht : t < 2 ^ b) (h0 : sl ((hs b x + t) % 2 ^ b) = nI 0) (hp : ∀ t', t' < t → ¬ sl ((hs b x + t') % 2 ^ b) = nI 0) (hx : ∀ j, j < K → ¬ kd j = x) : slI b (upd sl ((hs b x + t) % 2 ^ b) (nI (K + 1))) (upd kd K x) (K + 1) := by
  obtain ⟨hA, hB, hC, hD⟩ := h
  have hlt : (hs b x + t) % 2 ^ b < 2 ^ b := Nat.mod_lt _ hN
  have n0 : ∀ r, 0 < r → r ≤ 401 → ¬ nI r = nI 0 := fun r h1 h2 e => by have := (nI_eq (by omega) (by decide)).mp e; omega
  refine ⟨fun q hq => ?_, fun q q' r hq hq' hr hrK e e' => ?_, fun j hj => ?_, fun i j hi hj e => ?_⟩
  · by_cases e : q = (hs b x + t) % 2 ^ b
    · exact ⟨K + 1, Nat.le_refl _, by rw [e, pk_us]⟩
    · obtain ⟨r, h1, h2⟩ := hA q hq
      exact ⟨r, by omega, by rw [pk_un e]; exact h2⟩
  · by_cases e1 : q = (hs b x + t) % 2 ^ b
    · by_cases e2 : q' = (hs b x + t) % 2 ^ b
      · rw [e1, e2]
      · rw [e1, pk_us] at e
        rw [pk_un e2] at e'
        obtain ⟨r', h1, h2⟩ := hA q' hq'
        have a1 := (nI_eq (by omega) (by omega)).mp (e'.symm.trans h2)
        have a2 := (nI_eq (by omega) (by omega)).mp e
        omega
    · by_cases e2 : q' = (hs b x + t) % 2 ^ b
      · rw [e2, pk_us] at e'
        rw [pk_un e1] at e
        obtain ⟨r', h1, h2⟩ := hA q hq
        have a1 := (nI_eq (by omega) (by omega)).mp (e.symm.trans h2)
        have a2 := (nI_eq (by omega) (by omega)).mp e'
        omega
      · rw [pk_un e1] at e
        rw [pk_un e2] at e'
        obtain ⟨r', h1, h2⟩ := hA q hq
        have a1 := (nI_eq (by omega) (by omega)).mp (e.symm.trans h2)
        exact hB q q' r hq hq' hr (by omega) e e'
  · by_cases ej : j = K
    · subst ej
      rw [pk_us]
      refine ⟨t, ht, pk_us, fun t' ht' => ?_⟩
      by_cases e : (hs b x + t') % 2 ^ b = (hs b x + t) % 2 ^ b
      · rw [e, pk_us]; exact n0 _ (by omega) (by omega)
      · rw [pk_un e]; exact hp t' ht'
    · rw [pk_un ej]
      obtain ⟨d, hd, h1, h2⟩ := hC j (by omega)
      refine ⟨d, hd, ?_, fun t' ht' => ?_⟩
      · rw [pk_un (fun e => by rw [e, h0] at h1; exact n0 _ (by omega) (by omega) h1.symm)]
        exact h1
      · by_cases e : (hs b (kd j) + t') % 2 ^ b = (hs b x + t) % 2 ^ b
        · rw [e, pk_us]; exact n0 _ (by omega) (by omega)
        · rw [pk_un e]; exact h2 t' ht'
  · by_cases ei : i = K
    · by_cases ej : j = K
      · rw [ei, ej]
      · rw [ei, pk_us, pk_un ej] at e
        exact absurd e.symm (hx j (by omega))
    · by_cases ej : j = K
      · rw [ej, pk_us, pk_un ei] at e
        exact absurd e (hx i (by omega))
      · rw [pk_un ei, pk_un ej] at e
        exact hD i j (by omega) (by omega) e
theorem slI_none {b : Nat} {sl kd : Nat → Int32} {K t : Nat} {x : Int32} (h : slI b sl kd K) (hK4 : K ≤ 400) (h0 : sl ((hs b x + t) % 2 ^ b) = nI 0) (hp : ∀ t', t' < t → ∀ r, 0 < r → r ≤ K → sl ((hs b x + t') % 2 ^ b) = nI r → ¬ kd (r - 1) = x) : ∀ j, j < K → ¬ kd j = x := fun j hj e => by
  obtain ⟨d, hd, h1, h2⟩ := h.2.2.1 j hj
  rw [e] at h1 h2
  rcases Nat.lt_trichotomy t d with q | q | q
  · exact h2 t q h0
  · rw [← q, h0] at h1
    have := (nI_eq (by decide) (by omega)).mp h1
    omega
  · have := hp d q (j + 1) (by omega) (by omega) h1
    simp only [Nat.add_sub_cancel] at this
    exact this e
theorem uk_X0_54 : Cond.constant RX0 54 (-1640531535) ∈ uW := uW_of (by decide +kernel) rfl
set_option maxHeartbeats 4000000 in
set_option maxRecDepth 100000 in
/-- Census.kindOf -/
theorem k_kindOf (l : Launch) (z : bZ) (v : bV) (sc : Nat → Int32) (ar : Nat → Nat → Int32) (b K : Nat) (x : Int32) (hb0 : sc 9 = nI b) (hb1 : 1 ≤ b) (hb9 : b ≤ 9) (hK : sc 10 = nI K) (hK4 : K < 400) (hKb : K < 2 ^ b) (hs0 : slI b (ar 14) (ar 15) K) : Met l yX0_kindOf (Cond.code yX0_kindOf cX0_kindOf 5 (some .int) :: uW) { frames := 0, cells := 0, slots := 0, locals := 0 } (pC z v sc ar [.ref (zad z 3), .int (x)]) (qI z (fun r u => ∃ j : Nat, r = nI j ∧ ((j < K ∧ ar 15 j = x ∧ u = (v, sc, ar)) ∨ (j = K ∧ (∀ i, i < K → ¬ ar 15 i = x) ∧ ∃ sl, slI b sl (upd (ar 15) K x) (K + 1) ∧ u = (v, va_up sc 10 (nI (K + 1)), va_up (va_up (va_up ar 15 (upd (ar 15) K x)) 16 (upd (ar 16) K (nI 0))) 14 sl))))) 0 0 (zA z) := by
  refine eM (by decide) (Nat.le_of_ble_eq_true rfl) ?_
  intro pP eE s mM below meth cC ls C hr hlk h hl
  have hx := C.1.1
  have hb := C.1.2.1
  have hl : lv_has ls 5 [(0, .ref (zad z 3)), (1, .int (x))] := hl
  have hp := p29 hb9
  have hp0 : 0 < 2 ^ b := Nat.pow_pos (by decide)
  refine lv_iconst (v := nI (1)) hx hb dX0_kindOf_0 (by decide) ?_
  refine lv_aload_n hx hb dX0_kindOf_1 rfl (lv_at hl 0 rfl) ?_
  refine rg_X0_15 C h dX0_kindOf_2 ?_
  refine tI (y := nI (b)) hb0 ?_
  refine lv_ishl hx hb dX0_kindOf_5 ?_
  refine tI (y := nI (2 ^ b)) (shl1 b (by omega)) ?_
  refine lv_istore_n (lv' := [(2, .int (nI (2 ^ b))), (0, .ref (zad z 3)), (1, .int (x))]) hx hb dX0_kindOf_6 rfl hl (by decide) rfl (fun ls hl => ?_)
  refine lv_iload_n hx hb dX0_kindOf_7 rfl (lv_at hl 2 rfl) ?_
  refine lv_ldc (v := -1640531535) hx hb C.1.2.2.2.1 (C.1.2.2.2.2 _ uk_X0_54) dX0_kindOf_8 ?_
  refine lv_imul hx hb dX0_kindOf_10 ?_
  refine lv_bipush (v := nI (32)) hx hb dX0_kindOf_11 (by decide) ?_
  refine lv_aload_n hx hb dX0_kindOf_13 rfl (lv_at hl 1 rfl) ?_
  refine rg_X0_15 C h dX0_kindOf_14 ?_
  refine tI (y := nI (b)) hb0 ?_
  refine lv_isub hx hb dX0_kindOf_17 ?_
  refine tI (pk_sub (by omega)) ?_
  refine lv_iushr (v := nI (hs b x)) hx hb dX0_kindOf_18 (hs_eq hb1 hb9) ?_
  refine lv_istore_n (lv' := [(3, .int (nI (hs b x))), (2, .int (nI (2 ^ b))), (0, .ref (zad z 3)), (1, .int (x))]) hx hb dX0_kindOf_19 rfl hl (by decide) rfl (fun ls hl => ?_)
  refine lv_iconst (v := nI (0)) hx hb dX0_kindOf_20 (by decide) ?_
  refine lv_istore (lv' := [(4, .int (nI (0))), (3, .int (nI (hs b x))), (2, .int (nI (2 ^ b))), (0, .ref (zad z 3)), (1, .int (x))]) hx hb dX0_kindOf_21 hl (by decide) rfl (fun ls hl => ?_)
  refine lpW2 (fun (t : Nat) (sp : Nat) (H : Heap) (locs : List Loc) (ls : Array Slot) => (t ≤ 2 ^ b) ∧ (sp = (hs b x + t) % 2 ^ b) ∧ (∀ t2, t2 < t → ¬ ar 14 ((hs b x + t2) % 2 ^ b) = nI 0 ∧ ∀ r, 0 < r → r ≤ K → ar 14 ((hs b x + t2) % 2 ^ b) = nI r → ¬ ar 15 (r - 1) = x) ∧ hH z v sc ar s H locs ∧ lv_has ls 5 [(0, .ref (zad z 3)), (1, .int (x)), (2, .int (nI (2 ^ b))), (3, .int (nI (sp))), (4, .int (nI (t)))]) (fun (t : Nat) (sp : Nat) => 2 ^ b - t) (fun t sp ih_23 H locs ls hI => ?_) (0) (hs b x) ⟨Nat.zero_le _, (Nat.mod_eq_of_lt (hs_lt x hb9)).symm, fun _ q => absurd q (Nat.not_lt_zero _), h, lv_sub hl [3, 4, 2, 1, 0] rfl⟩
  obtain ⟨h1, h2, hpr, h, hl⟩ := hI
  have hsp : sp < 2 ^ b := by rw [h2]; exact Nat.mod_lt _ hp0
  obtain ⟨r0, hr0, er⟩ := hs0.1 sp hsp
  refine lv_iload hx hb dX0_kindOf_23 (lv_at hl 4 rfl) ?_
  refine lv_iload_n hx hb dX0_kindOf_25 rfl (lv_at hl 2 rfl) ?_
  refine jN_ge (tgt := 67) (a := t) (b := 2 ^ b) C (by omega) (by omega) dX0_kindOf_26 (by decide) (fun c_26 => ?_) (fun c_26 => ?_)
  · skip
    obtain ⟨q, hq, eq⟩ := slI_free hs0 hKb (by omega)
    obtain ⟨t2, ht2, e2⟩ := cyc (hs_lt x hb9) hq
    exact absurd (by rw [e2]; exact eq) (hpr t2 (by omega)).1
  · skip
    refine lv_aload_n hx hb dX0_kindOf_29 rfl (lv_at hl 0 rfl) ?_
    refine rg_X0_11 C h dX0_kindOf_30 ?_
    refine lv_iload_n hx hb dX0_kindOf_33 rfl (lv_at hl 3 rfl) ?_
    refine ldA 14 rfl (j := sp) (show sp < 512 by omega) (by decide) C h dX0_kindOf_34 ?_
    refine tI (y := nI (r0)) er ?_
    refine zN_eq (tgt := 67) (a := r0) C (by omega) dX0_kindOf_35 (by decide) (fun c_35 => ?_) (fun c_35 => ?_)
    · skip
      have e0 : ar 14 sp = nI 0 := by rw [er, c_35]
      have ht : t < 2 ^ b := c_26
      have e1 : ar 14 ((hs b x + t) % 2 ^ b) = nI 0 := by rw [← h2]; exact e0
      have hno := slI_none hs0 (by omega) e1 (fun t2 q => (hpr t2 q).2)
      refine lv_aload_n hx hb dX0_kindOf_67 rfl (lv_at hl 0 rfl) ?_
      refine rg_X0_11 C h dX0_kindOf_68 ?_
      refine lv_iload_n hx hb dX0_kindOf_71 rfl (lv_at hl 3 rfl) ?_
      refine ldA 14 rfl (j := sp) (show sp < 512 by omega) (by decide) C h dX0_kindOf_72 ?_
      refine tI (y := nI (0)) e0 ?_
      refine zN_ne (tgt := 116) (a := 0) C (by decide) dX0_kindOf_73 (by decide) (fun q => absurd q (by decide)) (fun _ => ?_)
      refine lv_aload_n hx hb dX0_kindOf_76 rfl (lv_at hl 0 rfl) ?_
      refine rg_X0_19 C h dX0_kindOf_77 ?_
      refine lv_aload_n hx hb dX0_kindOf_80 rfl (lv_at hl 0 rfl) ?_
      refine rg_X0_25 C h dX0_kindOf_81 ?_
      refine tI (y := nI (K)) hK ?_
      refine lv_iload_n hx hb dX0_kindOf_84 rfl (lv_at hl 1 rfl) ?_
      refine stA 15 rfl (j := K) (x := x) (show K < 400 by omega) (by decide) C h dX0_kindOf_85 (fun H locs h => ?_)
      refine lv_aload_n hx hb dX0_kindOf_86 rfl (lv_at hl 0 rfl) ?_
      refine rg_X0_22 C h dX0_kindOf_87 ?_
      refine lv_aload_n hx hb dX0_kindOf_90 rfl (lv_at hl 0 rfl) ?_
      refine rg_X0_25 C h dX0_kindOf_91 ?_
      refine tI (y := nI (K)) hK ?_
      refine lv_iconst (v := nI (0)) hx hb dX0_kindOf_94 (by decide) ?_
      refine stA 16 rfl (j := K) (x := nI (0)) (show K < 400 by omega) (by decide) C h dX0_kindOf_95 (fun H locs h => ?_)
      refine lv_aload_n hx hb dX0_kindOf_96 rfl (lv_at hl 0 rfl) ?_
      refine lv_dup hx hb dX0_kindOf_97 rfl ?_
      refine rg_X0_25 C h dX0_kindOf_98 ?_
      refine tI (y := nI (K)) hK ?_
      refine lv_iconst (v := nI (1)) hx hb dX0_kindOf_101 (by decide) ?_
      refine lv_iadd hx hb dX0_kindOf_102 ?_
      refine tI (nI_add _ _) ?_
      refine rp_X0_25 C h dX0_kindOf_103 (fun H locs h => ?_)
      refine lv_aload_n hx hb dX0_kindOf_106 rfl (lv_at hl 0 rfl) ?_
      refine rg_X0_11 C h dX0_kindOf_107 ?_
      refine lv_iload_n hx hb dX0_kindOf_110 rfl (lv_at hl 3 rfl) ?_
      refine lv_aload_n hx hb dX0_kindOf_111 rfl (lv_at hl 0 rfl) ?_
      refine rg_X0_25 C h dX0_kindOf_112 ?_
      refine tI (y := nI ((K) + (1))) rfl ?_
      refine stA 14 rfl (j := sp) (x := nI ((K) + (1))) (show sp < 512 by omega) (by decide) C h dX0_kindOf_115 (fun H locs h => ?_)
      refine lv_aload_n hx hb dX0_kindOf_116 rfl (lv_at hl 0 rfl) ?_
      refine rg_X0_11 C h dX0_kindOf_117 ?_
      refine lv_iload_n hx hb dX0_kindOf_120 rfl (lv_at hl 3 rfl) ?_
      refine ldA 14 rfl (j := sp) (show sp < 512 by omega) (by decide) C h dX0_kindOf_121 ?_
      refine tI (y := nI (K + 1)) pk_us ?_
      refine lv_iconst (v := nI (1)) hx hb dX0_kindOf_122 (by decide) ?_
      refine lv_isub hx hb dX0_kindOf_123 ?_
      refine tI (pk_sub (by omega)) ?_
      exact rI C hr hlk h dX0_kindOf_124 (Nat.le_of_ble_eq_true rfl) (Nat.le_of_ble_eq_true rfl) (⟨K, rfl, Or.inr ⟨rfl, hno, upd (ar 14) sp (nI (K + 1)), by rw [h2]; exact slI_new hs0 hK4 hp0 ht e1 (fun t2 q => (hpr t2 q).1) hno, rfl⟩⟩)
    · skip
      refine lv_aload_n hx hb dX0_kindOf_38 rfl (lv_at hl 0 rfl) ?_
      refine rg_X0_19 C h dX0_kindOf_39 ?_
      refine lv_aload_n hx hb dX0_kindOf_42 rfl (lv_at hl 0 rfl) ?_
      refine rg_X0_11 C h dX0_kindOf_43 ?_
      refine lv_iload_n hx hb dX0_kindOf_46 rfl (lv_at hl 3 rfl) ?_
      refine ldA 14 rfl (j := sp) (show sp < 512 by omega) (by decide) C h dX0_kindOf_47 ?_
      refine tI (y := nI (r0)) er ?_
      refine lv_iconst (v := nI (1)) hx hb dX0_kindOf_48 (by decide) ?_
      refine lv_isub hx hb dX0_kindOf_49 ?_
      refine tI (pk_sub (by omega)) ?_
      refine ldA 15 rfl (j := (r0) - (1)) (show (r0) - (1) < 400 by omega) (by decide) C h dX0_kindOf_50 ?_
      refine tI (y := (ar 15) ((r0) - (1))) rfl ?_
      refine lv_iload_n hx hb dX0_kindOf_51 rfl (lv_at hl 1 rfl) ?_
      refine lv_icmp_eq (tgt := 67) hx hb dX0_kindOf_52 (by decide) (fun c_52 => ?_) (fun c_52 => ?_)
      · skip
        refine lv_aload_n hx hb dX0_kindOf_67 rfl (lv_at hl 0 rfl) ?_
        refine rg_X0_11 C h dX0_kindOf_68 ?_
        refine lv_iload_n hx hb dX0_kindOf_71 rfl (lv_at hl 3 rfl) ?_
        refine ldA 14 rfl (j := sp) (show sp < 512 by omega) (by decide) C h dX0_kindOf_72 ?_
        refine tI (y := nI (r0)) er ?_
        refine zN_ne (tgt := 116) (a := r0) C (by omega) dX0_kindOf_73 (by decide) (fun c_73 => ?_) (fun c_73 => ?_)
        · skip
          refine lv_aload_n hx hb dX0_kindOf_116 rfl (lv_at hl 0 rfl) ?_
          refine rg_X0_11 C h dX0_kindOf_117 ?_
          refine lv_iload_n hx hb dX0_kindOf_120 rfl (lv_at hl 3 rfl) ?_
          refine ldA 14 rfl (j := sp) (show sp < 512 by omega) (by decide) C h dX0_kindOf_121 ?_
          refine tI (y := nI (r0)) er ?_
          refine lv_iconst (v := nI (1)) hx hb dX0_kindOf_122 (by decide) ?_
          refine lv_isub hx hb dX0_kindOf_123 ?_
          refine tI (pk_sub (by omega)) ?_
          exact rI C hr hlk h dX0_kindOf_124 (Nat.le_of_ble_eq_true rfl) (Nat.le_of_ble_eq_true rfl) (⟨r0 - 1, rfl, Or.inl ⟨by omega, c_52, rfl⟩⟩)
        · skip
          exact absurd c_73 (by omega)
      · skip
        refine lv_iload_n hx hb dX0_kindOf_55 rfl (lv_at hl 3 rfl) ?_
        refine lv_iconst (v := nI (1)) hx hb dX0_kindOf_56 (by decide) ?_
        refine lv_iadd hx hb dX0_kindOf_57 ?_
        refine tI (nI_add _ _) ?_
        refine lv_iload_n hx hb dX0_kindOf_58 rfl (lv_at hl 2 rfl) ?_
        refine lv_irem hx hb dX0_kindOf_59 (nI_ne0 (by omega) (by omega)) ?_
        refine tI (pk_rem (by omega) (by omega) (by omega)) ?_
        refine lv_istore_n (lv' := [(3, .int (nI (((sp) + (1)) % (2 ^ b)))), (0, .ref (zad z 3)), (1, .int (x)), (2, .int (nI (2 ^ b))), (4, .int (nI (t)))]) hx hb dX0_kindOf_60 rfl hl (by decide) rfl (fun ls hl => ?_)
        refine lv_iinc (v := nI (t + 1)) (lv' := [(4, .int (nI (t + 1))), (3, .int (nI (((sp) + (1)) % (2 ^ b)))), (0, .ref (zad z 3)), (1, .int (x)), (2, .int (nI (2 ^ b)))]) hx hb dX0_kindOf_61 hl (k := 4) rfl (nN_inc _) (by decide) rfl (fun ls hl => ?_)
        refine lv_goto (tgt := 23) hx hb dX0_kindOf_64 (by decide) ?_
        exact ih_23 (t + 1) ((sp + 1) % 2 ^ b) (by omega) H locs ls ⟨by omega, by rw [h2, Nat.mod_add_mod, Nat.add_assoc], fun t2 q => by rcases Nat.lt_succ_iff_lt_or_eq.mp q with q | q; exact hpr t2 q; rw [q, ← h2]; exact ⟨fun e => by have := (nI_eq (by omega) (by decide)).mp (er.symm.trans e); omega, fun r h3 h4 e => by have := (nI_eq (by omega) (by omega)).mp (er.symm.trans e); rw [← this]; exact c_52⟩, h, lv_sub hl [2, 3, 4, 1, 0] rfl⟩
end
section
section FRM
variable {p : Program} {l : Launch} {e : Env} {R : Room} {s : State} {m : MethodId} {args : Array Value} {below : List Frame} {meth : Method} {c : Code} {H : Heap} {locs : List Loc} {cells slots : Nat} {Q : State → Prop}
variable {z : bZ} {v : bV} {sc : Nat → Int32} {ar : Nat → Nat → Int32} {cc : ByteArray} {nL : Nat} {own : String} {pc : Nat} {ls : Array Slot} {rest : List Value}
theorem rf_X0_36 {f : Nat} (hf : f < 4) (C : cX z p m c cc nL s args RX0) (h : hH z v sc ar s H locs) (hd : decode cc pc = .ok (.getfield 36, 3)) (k : W p l e R s m args below meth c H locs cells slots Q (F0 m (pc + 3) ls (.ref (zad z (23 + f)) :: rest))) : W p l e R s m args below meth c H locs cells slots Q (F0 m pc ls (.ref (zad z (5 + f)) :: rest)) := by
  rcases (show f = 0 ∨ f = 1 ∨ f = 2 ∨ f = 3 by omega) with rfl | rfl | rfl | rfl
  · exact va_getN (D := zD z) (ci := 3) (C := RX3) (T := TX3) (N := 2) (v := .ref (zad z 23)) C.1.1 C.1.2.1 C.1.2.2.2.2 iX3 C.1.2.2.2.1 C.2.1 h.1.1 5 rfl rfl 1 (by decide) (va_Nw.use rfl (C.2.2.2.1 _ (List.mem_of_getElem? (i := 9) rfl))) (fun _ h9 => h9) rfl hd k
  · exact va_getN (D := zD z) (ci := 3) (C := RX3) (T := TX3) (N := 2) (v := .ref (zad z 24)) C.1.1 C.1.2.1 C.1.2.2.2.2 iX3 C.1.2.2.2.1 C.2.1 h.1.1 6 rfl rfl 1 (by decide) (va_Nw.use rfl (C.2.2.2.1 _ (List.mem_of_getElem? (i := 9) rfl))) (fun _ h9 => h9) rfl hd k
  · exact va_getN (D := zD z) (ci := 3) (C := RX3) (T := TX3) (N := 2) (v := .ref (zad z 25)) C.1.1 C.1.2.1 C.1.2.2.2.2 iX3 C.1.2.2.2.1 C.2.1 h.1.1 7 rfl rfl 1 (by decide) (va_Nw.use rfl (C.2.2.2.1 _ (List.mem_of_getElem? (i := 9) rfl))) (fun _ h9 => h9) rfl hd k
  · exact va_getN (D := zD z) (ci := 3) (C := RX3) (T := TX3) (N := 2) (v := .ref (zad z 26)) C.1.1 C.1.2.1 C.1.2.2.2.2 iX3 C.1.2.2.2.1 C.2.1 h.1.1 8 rfl rfl 1 (by decide) (va_Nw.use rfl (C.2.2.2.1 _ (List.mem_of_getElem? (i := 9) rfl))) (fun _ h9 => h9) rfl hd k
theorem rf_X0_41 {f : Nat} (hf : f < 4) (C : cX z p m c cc nL s args RX0) (h : hH z v sc ar s H locs) (hd : decode cc pc = .ok (.getfield 41, 3)) (k : W p l e R s m args below meth c H locs cells slots Q (F0 m (pc + 3) ls (.ref (zad z (19 + f)) :: rest))) : W p l e R s m args below meth c H locs cells slots Q (F0 m pc ls (.ref (zad z (5 + f)) :: rest)) := by
  rcases (show f = 0 ∨ f = 1 ∨ f = 2 ∨ f = 3 by omega) with rfl | rfl | rfl | rfl
  · exact va_getN (D := zD z) (ci := 3) (C := RX3) (T := TX3) (N := 2) (v := .ref (zad z 19)) C.1.1 C.1.2.1 C.1.2.2.2.2 iX3 C.1.2.2.2.1 C.2.1 h.1.1 5 rfl rfl 0 (by decide) (va_Nw.use rfl (C.2.2.2.1 _ (List.mem_of_getElem? (i := 10) rfl))) (fun _ h9 => h9) rfl hd k
  · exact va_getN (D := zD z) (ci := 3) (C := RX3) (T := TX3) (N := 2) (v := .ref (zad z 20)) C.1.1 C.1.2.1 C.1.2.2.2.2 iX3 C.1.2.2.2.1 C.2.1 h.1.1 6 rfl rfl 0 (by decide) (va_Nw.use rfl (C.2.2.2.1 _ (List.mem_of_getElem? (i := 10) rfl))) (fun _ h9 => h9) rfl hd k
  · exact va_getN (D := zD z) (ci := 3) (C := RX3) (T := TX3) (N := 2) (v := .ref (zad z 21)) C.1.1 C.1.2.1 C.1.2.2.2.2 iX3 C.1.2.2.2.1 C.2.1 h.1.1 7 rfl rfl 0 (by decide) (va_Nw.use rfl (C.2.2.2.1 _ (List.mem_of_getElem? (i := 10) rfl))) (fun _ h9 => h9) rfl hd k
  · exact va_getN (D := zD z) (ci := 3) (C := RX3) (T := TX3) (N := 2) (v := .ref (zad z 22)) C.1.1 C.1.2.1 C.1.2.2.2.2 iX3 C.1.2.2.2.1 C.2.1 h.1.1 8 rfl rfl 0 (by decide) (va_Nw.use rfl (C.2.2.2.1 _ (List.mem_of_getElem? (i := 10) rfl))) (fun _ h9 => h9) rfl hd k
theorem rf_X4_54 {f : Nat} (hf : f < 4) (C : cX z p m c cc nL s args RX4) (h : hH z v sc ar s H locs) (hd : decode cc pc = .ok (.getfield 54, 3)) (k : W p l e R s m args below meth c H locs cells slots Q (F0 m (pc + 3) ls (.ref (zad z (23 + f)) :: rest))) : W p l e R s m args below meth c H locs cells slots Q (F0 m pc ls (.ref (zad z (5 + f)) :: rest)) := by
  rcases (show f = 0 ∨ f = 1 ∨ f = 2 ∨ f = 3 by omega) with rfl | rfl | rfl | rfl
  · exact va_getN (D := zD z) (ci := 3) (C := RX3) (T := TX3) (N := 2) (v := .ref (zad z 23)) C.1.1 C.1.2.1 C.1.2.2.2.2 iX3 C.1.2.2.2.1 C.2.1 h.1.1 5 rfl rfl 1 (by decide) (va_Nw.use rfl (C.2.2.2.1 _ (List.mem_of_getElem? (i := 16) rfl))) (fun _ h9 => h9) rfl hd k
  · exact va_getN (D := zD z) (ci := 3) (C := RX3) (T := TX3) (N := 2) (v := .ref (zad z 24)) C.1.1 C.1.2.1 C.1.2.2.2.2 iX3 C.1.2.2.2.1 C.2.1 h.1.1 6 rfl rfl 1 (by decide) (va_Nw.use rfl (C.2.2.2.1 _ (List.mem_of_getElem? (i := 16) rfl))) (fun _ h9 => h9) rfl hd k
  · exact va_getN (D := zD z) (ci := 3) (C := RX3) (T := TX3) (N := 2) (v := .ref (zad z 25)) C.1.1 C.1.2.1 C.1.2.2.2.2 iX3 C.1.2.2.2.1 C.2.1 h.1.1 7 rfl rfl 1 (by decide) (va_Nw.use rfl (C.2.2.2.1 _ (List.mem_of_getElem? (i := 16) rfl))) (fun _ h9 => h9) rfl hd k
  · exact va_getN (D := zD z) (ci := 3) (C := RX3) (T := TX3) (N := 2) (v := .ref (zad z 26)) C.1.1 C.1.2.1 C.1.2.2.2.2 iX3 C.1.2.2.2.1 C.2.1 h.1.1 8 rfl rfl 1 (by decide) (va_Nw.use rfl (C.2.2.2.1 _ (List.mem_of_getElem? (i := 16) rfl))) (fun _ h9 => h9) rfl hd k
theorem rf_X4_44 {f : Nat} (hf : f < 4) (C : cX z p m c cc nL s args RX4) (h : hH z v sc ar s H locs) (hd : decode cc pc = .ok (.getfield 44, 3)) (k : W p l e R s m args below meth c H locs cells slots Q (F0 m (pc + 3) ls (.ref (zad z (19 + f)) :: rest))) : W p l e R s m args below meth c H locs cells slots Q (F0 m pc ls (.ref (zad z (5 + f)) :: rest)) := by
  rcases (show f = 0 ∨ f = 1 ∨ f = 2 ∨ f = 3 by omega) with rfl | rfl | rfl | rfl
  · exact va_getN (D := zD z) (ci := 3) (C := RX3) (T := TX3) (N := 2) (v := .ref (zad z 19)) C.1.1 C.1.2.1 C.1.2.2.2.2 iX3 C.1.2.2.2.1 C.2.1 h.1.1 5 rfl rfl 0 (by decide) (va_Nw.use rfl (C.2.2.2.1 _ (List.mem_of_getElem? (i := 15) rfl))) (fun _ h9 => h9) rfl hd k
  · exact va_getN (D := zD z) (ci := 3) (C := RX3) (T := TX3) (N := 2) (v := .ref (zad z 20)) C.1.1 C.1.2.1 C.1.2.2.2.2 iX3 C.1.2.2.2.1 C.2.1 h.1.1 6 rfl rfl 0 (by decide) (va_Nw.use rfl (C.2.2.2.1 _ (List.mem_of_getElem? (i := 15) rfl))) (fun _ h9 => h9) rfl hd k
  · exact va_getN (D := zD z) (ci := 3) (C := RX3) (T := TX3) (N := 2) (v := .ref (zad z 21)) C.1.1 C.1.2.1 C.1.2.2.2.2 iX3 C.1.2.2.2.1 C.2.1 h.1.1 7 rfl rfl 0 (by decide) (va_Nw.use rfl (C.2.2.2.1 _ (List.mem_of_getElem? (i := 15) rfl))) (fun _ h9 => h9) rfl hd k
  · exact va_getN (D := zD z) (ci := 3) (C := RX3) (T := TX3) (N := 2) (v := .ref (zad z 22)) C.1.1 C.1.2.1 C.1.2.2.2.2 iX3 C.1.2.2.2.1 C.2.1 h.1.1 8 rfl rfl 0 (by decide) (va_Nw.use rfl (C.2.2.2.1 _ (List.mem_of_getElem? (i := 15) rfl))) (fun _ h9 => h9) rfl hd k
end FRM
theorem isA_fr {f : Nat} (hf : f < 4) : isA (19 + f) = true ∧ aL (19 + f) = 51 ∧ isA (23 + f) = true ∧ aL (23 + f) = 400 := by
  rcases (show f = 0 ∨ f = 1 ∨ f = 2 ∨ f = 3 by omega) with rfl | rfl | rfl | rfl <;> exact ⟨rfl, rfl, rfl, rfl⟩
/-- how often x is among the first n -/
def cN (R : Nat → Int32) (x : Int32) : Nat → Nat
  | 0 => 0
  | n + 1 => cN R x n + if R n = x then 1 else 0
theorem cN_le (R : Nat → Int32) (x : Int32) : ∀ n, cN R x n ≤ n
  | 0 => Nat.le_refl _
  | n + 1 => by have := cN_le R x n; unfold cN; split <;> omega
theorem cN_0 {R : Nat → Int32} {x : Int32} : ∀ n, (∀ q, q < n → ¬ R q = x) → cN R x n = 0
  | 0, _ => rfl
  | n + 1, h => by
    unfold cN
    rw [cN_0 n (fun q hq => h q (by omega)), if_neg (h n (by omega))]
/-- x is not among the first i -/
def nw (R : Nat → Int32) (x : Int32) : Nat → Bool
  | 0 => true
  | i + 1 => nw R x i && !decide (R i = x)
theorem nw_iff {R : Nat → Int32} {x : Int32} : ∀ i, nw R x i = true ↔ ∀ q, q < i → ¬ R q = x
  | 0 => ⟨fun _ q hq => absurd hq (Nat.not_lt_zero _), fun _ => rfl⟩
  | i + 1 => by
    unfold nw
    rw [Bool.and_eq_true, nw_iff i]
    simp only [Bool.not_eq_true', decide_eq_false_iff_not]
    refine ⟨fun h q hq => ?_, fun h => ⟨fun q hq => h q (by omega), h i (by omega)⟩⟩
    by_cases e : q = i
    · rw [e]; exact h.2
    · exact h.1 q (by omega)
/-- how often the number at place i is there, at the first of its places; 0 at others -/
def oft (R : Nat → Int32) (n i : Nat) : Nat := if nw R (R i) i = true then cN R (R i) n else 0
/-- the favourites of a row -/
def favs (R : Nat → Int32) (n m : Nat) : List Int32 := (fv (oft R n) n m).map R
/-- which favourite x is: the first has 1 -/
def tk (F : List Int32) (x : Int32) : Nat → Nat
  | 0 => 0
  | j + 1 => if F.getD j 0 = x then j + 1 else tk F x j
def tok (F : List Int32) (x : Int32) : Nat := tk F x F.length
/-- places and kinds: the kinds in the order of their first places -/
theorem mp_im {o c : Nat → Nat} {po : Nat → Nat} : ∀ (n K : Nat), (∀ j, j < K → po j < n ∧ o (po j) = c j) → (∀ j j', j < j' → j' < K → po j < po j') → (∀ i, i < n → (∀ j, j < K → ¬ po j = i) → o i = 0) → mp o n = ((mp c K).1.map po, (mp c K).2)
  | 0, K, h1, _, _ => by
    rcases K with _ | K
    · rfl
    · exact absurd (h1 0 (by omega)).1 (Nat.not_lt_zero _)
  | n + 1, K, h1, h2, h3 => by
    by_cases hex : ∃ j, j < K ∧ po j = n
    · obtain ⟨j, hj, ej⟩ := hex
      have hK : j + 1 = K := by
        rcases Nat.lt_or_ge (j + 1) K with q | q
        · have a1 := h2 j (j + 1) (by omega) q
          have a2 := (h1 (j + 1) q).1
          omega
        · omega
      subst hK
      have ih := mp_im n j (fun i hi => ⟨by have := h2 i j hi (by omega); omega, (h1 i (by omega)).2⟩) (fun i i' hi hi' => h2 i i' hi (by omega)) (fun i hi hn => h3 i (by omega) (fun q hq e => by
        by_cases eq : q = j
        · rw [eq, ej] at e; omega
        · exact hn q (by omega) e))
      have e2 : o n = c j := by rw [← ej]; exact (h1 j (by omega)).2
      rw [show mp o (n + 1) = if (mp o n).2 < o n then (some n, o n) else mp o n from rfl, show mp c (j + 1) = if (mp c j).2 < c j then (some j, c j) else mp c j from rfl, ih, e2]
      simp only
      split
      · simp [ej]
      · rfl
    · have ih := mp_im n K (fun j hj => ⟨by have := (h1 j hj).1; have : po j ≠ n := fun e => hex ⟨j, hj, e⟩; omega, (h1 j hj).2⟩) h2 (fun i hi hn => h3 i (by omega) hn)
      have e2 : o n = 0 := h3 n (by omega) (fun j hj e => hex ⟨j, hj, e⟩)
      rw [show mp o (n + 1) = if (mp o n).2 < o n then (some n, o n) else mp o n from rfl, e2, if_neg (Nat.not_lt_zero _)]
      exact ih
theorem fv_im {po : Nat → Nat} {n K : Nat} (h2 : ∀ j j', j < j' → j' < K → po j < po j') (h0 : ∀ j, j < K → po j < n) : ∀ (m : Nat) (o c : Nat → Nat), (∀ j, j < K → o (po j) = c j) → (∀ i, i < n → (∀ j, j < K → ¬ po j = i) → o i = 0) → fv o n m = (fv c K m).map po
  | 0, _, _, _, _ => rfl
  | m + 1, o, c, h1, h3 => by
    have e := mp_im n K (fun j hj => ⟨h0 j hj, h1 j hj⟩) h2 h3
    have inj : ∀ i j, i < K → j < K → po i = po j → i = j := fun i j hi hj e => by
      rcases Nat.lt_trichotomy i j with q | q | q
      · have := h2 i j q hj; omega
      · exact q
      · have := h2 j i q hi; omega
    unfold fv
    rw [e]
    simp only
    cases hm : (mp c K).1 with
    | none => rfl
    | some j =>
      have hj := (mp_in K j hm).1
      simp only [Option.map_some, List.map_cons]
      congr 1
      refine fv_im h2 h0 m _ _ (fun i hi => ?_) (fun i hi hn => ?_)
      · by_cases q : i = j
        · rw [q, va_up_self, va_up_self]
        · rw [va_up_ne _ _ q, va_up_ne _ _ (fun e => q (inj i j hi hj e))]
          exact h1 i hi
      · rw [va_up_ne _ _ (fun e => hn j hj e.symm)]
        exact h3 i hi hn
theorem fv_lt {K : Nat} : ∀ (m : Nat) (c : Nat → Nat) (j : Nat), j ∈ fv c K m → j < K ∧ 1 < c j
  | 0, _, _, h => absurd h List.not_mem_nil
  | m + 1, c, j, h => by
    unfold fv at h
    cases hm : (mp c K).1 with
    | none => rw [hm] at h; exact absurd h List.not_mem_nil
    | some q =>
      rw [hm] at h
      simp only [List.mem_cons] at h
      rcases h with h | h
      · rw [h]; exact mp_in K q hm
      · have := fv_lt m _ j h
        by_cases e : j = q
        · rw [e, va_up_self] at this; omega
        · rw [va_up_ne _ _ e] at this; exact this
theorem fv_len {K : Nat} : ∀ (m : Nat) (c : Nat → Nat), (fv c K m).length ≤ m
  | 0, _ => Nat.le_refl _
  | m + 1, c => by
    unfold fv
    cases (mp c K).1 with
    | none => exact Nat.zero_le _
    | some q => have := fv_len (K := K) m (va_up c q 0); simp only [List.length_cons]; omega
theorem fv_nd {K : Nat} : ∀ (m : Nat) (c : Nat → Nat), (fv c K m).Nodup
  | 0, _ => List.nodup_nil
  | m + 1, c => by
    unfold fv
    cases hm : (mp c K).1 with
    | none => exact List.nodup_nil
    | some q =>
      simp only [List.nodup_cons]
      refine ⟨fun h => ?_, fv_nd m _⟩
      have := (fv_lt m _ q h).2
      rw [va_up_self] at this
      omega
end
section
/-- the census' rows and a line -/
def A4 (ar : Nat → Nat → Int32) (L : Nat) (kd T sl g : Nat → Int32) : Nat → Nat → Int32 := va_up (va_up (va_up (va_up ar 15 kd) 16 T) 14 sl) L g
theorem A4_14 {ar : Nat → Nat → Int32} {L : Nat} {kd T sl g : Nat → Int32} (hL : 23 ≤ L) : A4 ar L kd T sl g 14 = sl := by
  unfold A4; rw [va_up_ne _ _ (by omega), va_up_self]
theorem A4_15 {ar : Nat → Nat → Int32} {L : Nat} {kd T sl g : Nat → Int32} (hL : 23 ≤ L) : A4 ar L kd T sl g 15 = kd := by
  unfold A4; rw [va_up_ne _ _ (by omega), va_up_ne _ _ (by omega), va_up_ne _ _ (by omega), va_up_self]
theorem A4_16 {ar : Nat → Nat → Int32} {L : Nat} {kd T sl g : Nat → Int32} (hL : 23 ≤ L) : A4 ar L kd T sl g 16 = T := by
  unfold A4; rw [va_up_ne _ _ (by omega), va_up_ne _ _ (by omega), va_up_self]
theorem A4_L {ar : Nat → Nat → Int32} {L : Nat} {kd T sl g : Nat → Int32} : A4 ar L kd T sl g L = g := by
  unfold A4; rw [va_up_self]
theorem A4_o {ar : Nat → Nat → Int32} {L q : Nat} {kd T sl g : Nat → Int32} (h1 : q ≠ 14) (h2 : q ≠ 15) (h3 : q ≠ 16) (h4 : q ≠ L) : A4 ar L kd T sl g q = ar q := by
  unfold A4; rw [va_up_ne _ _ h4, va_up_ne _ _ h1, va_up_ne _ _ h3, va_up_ne _ _ h2]
theorem A4_0 {ar : Nat → Nat → Int32} {L : Nat} {sl : Nat → Int32} (hL : 23 ≤ L) : A4 ar L (ar 15) (ar 16) sl (ar L) = va_up ar 14 sl := by
  unfold A4
  rw [va_us ar 15, va_us ar 16]
  exact va_ue (va_up_ne _ _ (by omega))
theorem A4_new {ar : Nat → Nat → Int32} {L : Nat} {kd T sl g kd' T' sl' : Nat → Int32} (hL : 23 ≤ L) : va_up (va_up (va_up (A4 ar L kd T sl g) 15 kd') 16 T') 14 sl' = A4 ar L kd' T' sl' g := by
  funext j
  simp only [A4, va_up]
  repeat' split
  all_goals first | rfl | (exfalso; omega) | (simp_all; done)
theorem A4_T {ar : Nat → Nat → Int32} {L : Nat} {kd T sl g T' : Nat → Int32} (hL : 23 ≤ L) : va_up (A4 ar L kd T sl g) 16 T' = A4 ar L kd T' sl g := by
  funext j
  simp only [A4, va_up]
  repeat' split
  all_goals first | rfl | (exfalso; omega) | (simp_all; done)
theorem A4_g {ar : Nat → Nat → Int32} {L : Nat} {kd T sl g g' : Nat → Int32} : va_up (A4 ar L kd T sl g) L g' = A4 ar L kd T sl g' := by
  unfold A4; rw [va_uu]
theorem A4_F {ar : Nat → Nat → Int32} {L F : Nat} {kd T sl g fa T' : Nat → Int32} (hL : 23 ≤ L) (h1 : F ≠ 14) (h2 : F ≠ 15) (h3 : F ≠ 16) (h4 : F ≠ L) : va_up (va_up (A4 ar L kd T sl g) F fa) 16 T' = A4 (va_up ar F fa) L kd T' sl g := by
  funext j
  simp only [A4, va_up]
  repeat' split
  all_goals first | rfl | (exfalso; omega) | (simp_all; done)
/-- what the census knows of the first i numbers of R -/
def cenI (R : Nat → Int32) (b i K : Nat) (sl kd T g : Nat → Int32) (kx po : Nat → Nat) : Prop := slI b sl kd K ∧ K ≤ i ∧ (∀ q, q < i → kx q < K ∧ g q = nI (kx q) ∧ kd (kx q) = R q) ∧ (∀ j, j < K → po j < i ∧ kx (po j) = j ∧ ∀ q, q < po j → ¬ R q = kd j) ∧ (∀ j j', j < j' → j' < K → po j < po j') ∧ ∀ j, j < K → T j = nI (cN R (kd j) i)
theorem cen_0 {R : Nat → Int32} {b : Nat} {sl kd T g : Nat → Int32} (h : ∀ q, q < 2 ^ b → sl q = nI 0) : cenI R b 0 0 sl kd T g (fun _ => 0) (fun _ => 0) := ⟨slI_0 h, Nat.le_refl _, fun _ q => absurd q (Nat.not_lt_zero _), fun _ q => absurd q (Nat.not_lt_zero _), fun _ _ _ q => absurd q (Nat.not_lt_zero _), fun _ q => absurd q (Nat.not_lt_zero _)⟩
theorem cen_old {R : Nat → Int32} {b i K j : Nat} {sl kd T g : Nat → Int32} {kx po : Nat → Nat} (h : cenI R b i K sl kd T g kx po) (hj : j < K) (e : kd j = R i) : cenI R b (i + 1) K sl kd (upd T j (nI (cN R (kd j) i + 1))) (upd g i (nI j)) (va_up kx i j) po := by
  obtain ⟨h1, h2, h3, h4, h5, h6⟩ := h
  refine ⟨h1, by omega, fun q hq => ?_, fun q hq => ?_, h5, fun q hq => ?_⟩
  · by_cases eq : q = i
    · rw [eq, va_up_self, pk_us]; exact ⟨hj, rfl, e⟩
    · rw [va_up_ne _ _ eq, pk_un eq]; exact h3 q (by omega)
  · obtain ⟨a1, a2, a3⟩ := h4 q hq
    exact ⟨by omega, by rw [va_up_ne _ _ (by omega)]; exact a2, a3⟩
  · rw [show cN R (kd q) (i + 1) = cN R (kd q) i + (if R i = kd q then 1 else 0) from rfl]
    by_cases eq : q = j
    · rw [eq, pk_us, if_pos e.symm]
    · rw [pk_un eq, if_neg (fun e2 => eq (h1.2.2.2 q j hq hj (e2.symm.trans e.symm)))]
      exact h6 q hq
theorem cen_new {R : Nat → Int32} {b i K : Nat} {sl sl' kd T g : Nat → Int32} {kx po : Nat → Nat} (h : cenI R b i K sl kd T g kx po) (hn : ∀ j, j < K → ¬ kd j = R i) (hs' : slI b sl' (upd kd K (R i)) (K + 1)) : cenI R b (i + 1) (K + 1) sl' (upd kd K (R i)) (upd (upd T K (nI 0)) K (nI (0 + 1))) (upd g i (nI K)) (va_up kx i K) (va_up po K i) := by
  obtain ⟨h1, h2, h3, h4, h5, h6⟩ := h
  refine ⟨hs', by omega, fun q hq => ?_, fun q hq => ?_, fun j j' hj hj' => ?_, fun q hq => ?_⟩
  · by_cases eq : q = i
    · rw [eq, va_up_self, pk_us, pk_us]; exact ⟨by omega, rfl, rfl⟩
    · obtain ⟨a1, a2, a3⟩ := h3 q (by omega)
      rw [va_up_ne _ _ eq, pk_un eq, pk_un (by omega)]; exact ⟨by omega, a2, a3⟩
  · by_cases eq : q = K
    · rw [eq, va_up_self, va_up_self, pk_us]
      refine ⟨by omega, rfl, fun r hr e => ?_⟩
      obtain ⟨a1, a2, a3⟩ := h3 r hr
      exact hn (kx r) a1 (a3.trans e)
    · obtain ⟨a1, a2, a3⟩ := h4 q (by omega)
      rw [va_up_ne _ _ eq, pk_un eq, va_up_ne _ _ (by omega)]
      exact ⟨by omega, a2, a3⟩
  · by_cases eq : j' = K
    · rw [eq, va_up_self, va_up_ne _ _ (by omega)]
      exact (h4 j (by omega)).1
    · rw [va_up_ne _ _ eq, va_up_ne _ _ (by omega)]
      exact h5 j j' hj (by omega)
  · rw [show cN R (upd kd K (R i) q) (i + 1) = cN R (upd kd K (R i) q) i + (if R i = upd kd K (R i) q then 1 else 0) from rfl]
    by_cases eq : q = K
    · rw [eq, pk_us, pk_us, if_pos rfl, cN_0 i (fun r hr e => by
        obtain ⟨a1, a2, a3⟩ := h3 r hr
        exact hn (kx r) a1 (a3.trans e))]
    · rw [pk_un eq, pk_un eq, pk_un eq, if_neg (fun e => hn q (by omega) e.symm)]
      exact h6 q (by omega)
theorem favs_eq {R : Nat → Int32} {b n K m : Nat} {sl kd T g : Nat → Int32} {kx po : Nat → Nat} (h : cenI R b n K sl kd T g kx po) : favs R n m = (fv (fun j => cN R (kd j) n) K m).map kd := by
  obtain ⟨h1, h2, h3, h4, h5, h6⟩ := h
  have hR : ∀ j, j < K → R (po j) = kd j := fun j hj => by
    obtain ⟨a1, a2, a3⟩ := h4 j hj
    rw [← (h3 (po j) a1).2.2, a2]
  unfold favs
  rw [fv_im (po := po) h5 (fun j hj => (h4 j hj).1) m (oft R n) (fun j => cN R (kd j) n) (fun j hj => ?_) (fun i hi hn => ?_), List.map_map]
  · apply List.map_congr_left
    intro j hj
    exact hR j (fv_lt m _ j hj).1
  · unfold oft
    rw [if_pos, hR j hj]
    rw [nw_iff, hR j hj]
    exact (h4 j hj).2.2
  · unfold oft
    apply if_neg
    intro q
    rw [nw_iff] at q
    obtain ⟨a1, a2, a3⟩ := h3 i hi
    obtain ⟨b1, b2, b3⟩ := h4 (kx i) a1
    apply hn (kx i) a1
    rcases Nat.lt_trichotomy (po (kx i)) i with c | c | c
    · exact absurd ((hR _ a1).trans a3) (q _ c)
    · exact c
    · exact absurd a3.symm (b3 i c)
theorem tk_none {F : List Int32} {x : Int32} : ∀ n, (∀ q, q < n → ¬ F.getD q 0 = x) → tk F x n = 0
  | 0, _ => rfl
  | n + 1, h => by unfold tk; rw [if_neg (h n (by omega)), tk_none n (fun q hq => h q (by omega))]
theorem tk_at {F : List Int32} {x : Int32} {q : Nat} : ∀ n, q < n → F.getD q 0 = x → (∀ r, r < n → F.getD r 0 = x → r = q) → tk F x n = q + 1
  | 0, h, _, _ => absurd h (Nat.not_lt_zero _)
  | n + 1, h, e, u => by
    unfold tk
    by_cases hq : q = n
    · rw [hq] at e ⊢; rw [if_pos e]
    · rw [if_neg (fun e2 => hq (u n (by omega) e2).symm), tk_at n (by omega) e (fun r hr => u r (by omega))]
theorem idx_get {j : Nat} : ∀ {js : List Nat}, j ∈ js → js.idxOf j < js.length ∧ js.getD (js.idxOf j) 0 = j
  | [], h => absurd h List.not_mem_nil
  | a :: l, h => by
    rw [idx_cons]
    by_cases q : a = j
    · rw [if_pos q]; simp [q]
    · rw [if_neg q]
      have := idx_get ((List.mem_cons.mp h).elim (fun e => absurd e.symm q) (fun e => e))
      simp only [List.length_cons, List.getD_cons_succ]
      exact ⟨by omega, this.2⟩
theorem nd_get : ∀ {js : List Nat}, js.Nodup → ∀ {a b : Nat}, a < js.length → b < js.length → js.getD a 0 = js.getD b 0 → a = b
  | [], _, _, _, ha, _, _ => absurd ha (Nat.not_lt_zero _)
  | x :: l, h, a, b, ha, hb, e => by
    rw [List.nodup_cons] at h
    have mem : ∀ q, q < l.length → l.getD q 0 ∈ l := fun q hq => by
      rw [List.getD_eq_getElem?_getD, List.getElem?_eq_getElem hq]
      exact List.getElem_mem hq
    rcases a with _ | a <;> rcases b with _ | b
    · rfl
    · rw [List.getD_cons_zero, List.getD_cons_succ] at e
      exact absurd (by rw [e]; exact mem b (by simpa using hb)) h.1
    · rw [List.getD_cons_zero, List.getD_cons_succ] at e
      exact absurd (by rw [← e]; exact mem a (by simpa using ha)) h.1
    · rw [List.getD_cons_succ, List.getD_cons_succ] at e
      rw [nd_get h.2 (by simpa using ha) (by simpa using hb) e]
theorem map_getD (js : List Nat) (kd : Nat → Int32) {q : Nat} (h : q < js.length) : (js.map kd).getD q 0 = kd (js.getD q 0) := by
  rw [List.getD_eq_getElem?_getD, List.getD_eq_getElem?_getD, List.getElem?_map, List.getElem?_eq_getElem h]
  rfl
theorem tok_eq {kd : Nat → Int32} {js : List Nat} {K j : Nat} (hnd : js.Nodup) (hjs : ∀ q, q ∈ js → q < K) (hj : j < K) (inj : ∀ a b, a < K → b < K → kd a = kd b → a = b) : tok (js.map kd) (kd j) = if j ∈ js then js.idxOf j + 1 else 0 := by
  unfold tok
  rw [List.length_map]
  have mem : ∀ q, q < js.length → js.getD q 0 ∈ js := fun q hq => by
    rw [List.getD_eq_getElem?_getD, List.getElem?_eq_getElem hq]
    exact List.getElem_mem hq
  by_cases h : j ∈ js
  · rw [if_pos h]
    obtain ⟨a1, a2⟩ := idx_get h
    refine tk_at _ a1 (by rw [map_getD js kd a1, a2]) (fun r hr e => ?_)
    rw [map_getD js kd hr] at e
    have := inj _ _ (hjs _ (mem r hr)) hj e
    exact nd_get hnd hr a1 (by rw [this, a2])
  · rw [if_neg h]
    refine tk_none _ (fun q hq e => h ?_)
    rw [map_getD js kd hq] at e
    have := inj _ _ (hjs _ (mem q hq)) hj e
    rw [← this]
    exact mem q hq
theorem max_tl {T : Nat → Int32} {js : List Nat} {j q : Nat} (hT : T j = nI q) (hq : q ≤ 400) (hl : js.length ≤ 50) : (if nI 0 < -(tlA T js j) then -(tlA T js j) else nI 0) = nI (if j ∈ js then js.idxOf j + 1 else 0) := by
  unfold tlA
  by_cases h : j ∈ js
  · rw [if_pos h, if_pos h]
    have := (idx_get h).1
    have e : - -(nI (js.idxOf j + 1)) = nI (js.idxOf j + 1) := Int32.neg_neg
    rw [e, if_pos ((nI_ltI (by decide) (by omega)).mpr (by omega))]
  · rw [if_neg h, if_neg h, hT]
    apply if_neg
    rw [Int32.lt_iff_toInt_lt, sb_negT (by omega), nI_toInt (by decide)]
    omega
theorem gv_X0_28 : GoodIn uW (wsV RX0 28 RX0 yX0_empty (Cond.code yX0_empty cX0_empty 3 none :: uW)) := gI_V (uW_of (by decide +kernel) rfl) (uW_of (by decide +kernel) rfl) (uW_of (by decide +kernel) rfl) (uW_of (by decide +kernel) rfl) (uW_of (by decide +kernel) rfl)
theorem gv_X0_28_n : okN yX0_empty 1 := by decide +kernel
theorem gv_X0_44 : GoodIn uW (wsV RX0 44 RX0 yX0_chooseFavourites (Cond.code yX0_chooseFavourites cX0_chooseFavourites 5 none :: uW)) := gI_V (uW_of (by decide +kernel) rfl) (uW_of (by decide +kernel) rfl) (uW_of (by decide +kernel) rfl) (uW_of (by decide +kernel) rfl) (uW_of (by decide +kernel) rfl)
theorem gv_X0_44_n : okN yX0_chooseFavourites 2 := by decide +kernel
theorem um_X0_48 : Cond.methodLink RX0 48 Lib.Math.max.name ∈ uW := uW_of (by decide +kernel) rfl
theorem gv_X0_32 : GoodIn uW (wsV RX0 32 RX0 yX0_kindOf (Cond.code yX0_kindOf cX0_kindOf 5 (some .int) :: uW)) := gI_V (uW_of (by decide +kernel) rfl) (uW_of (by decide +kernel) rfl) (uW_of (by decide +kernel) rfl) (uW_of (by decide +kernel) rfl) (uW_of (by decide +kernel) rfl)
theorem gv_X0_32_n : okN yX0_kindOf 1 := by decide +kernel
set_option maxHeartbeats 4000000 in
set_option maxRecDepth 100000 in
/-- Census.take -/
theorem k_take (l : Launch) (z : bZ) (v : bV) (sc : Nat → Int32) (ar : Nat → Nat → Int32) (k fr cnt m f : Nat) (hk : isA k = true) (hkL : aL k < 2 ^ 31) (hfc : fr + cnt ≤ aL k) (hc4 : cnt ≤ 400) (hm : m ≤ 50) (hf : f < 4) (hk1 : k ≠ 14) (hk2 : k ≠ 15) (hk3 : k ≠ 16) (hk5 : k ≠ 23 + f) : Met l yX0_take (Cond.code yX0_take cX0_take 8 none :: uW) { frames := 2, cells := 0, slots := 0, locals := 47 } (pC z v sc ar [.ref (zad z 3), .ref (zad z k), .int (nI (fr)), .int (nI (cnt)), .int (nI (m)), .ref (zad z (5 + f))]) (qV z (fun u => ∃ (sc1 : Nat → Int32) (ar1 : Nat → Nat → Int32), u = (v, sc1, ar1) ∧ (∀ i, i ≠ 9 → i ≠ 10 → sc1 i = sc i) ∧ (∀ q, q ≠ 14 → q ≠ 15 → q ≠ 16 → q ≠ 19 + f → q ≠ 23 + f → ar1 q = ar q) ∧ ar1 (19 + f) = wrR (ar (19 + f)) 0 (nI (favs (fun i => ar k (fr + i)) cnt m).length :: favs (fun i => ar k (fr + i)) cnt m) ∧ ∀ i, i < cnt → ar1 (23 + f) i = nI (tok (favs (fun i => ar k (fr + i)) cnt m) (ar k (fr + i))))) 0 0 (zA z) := by
  refine eM (by decide) (Nat.le_of_ble_eq_true rfl) ?_
  intro pP eE s mM below meth cC ls C hr hlk h hl
  have hx := C.1.1
  have hb := C.1.2.1
  have hl : lv_has ls 8 [(0, .ref (zad z 3)), (1, .ref (zad z k)), (2, .int (nI (fr))), (3, .int (nI (cnt))), (4, .int (nI (m))), (5, .ref (zad z (5 + f)))] := hl
  have hA4 := isA_fr hf
  obtain ⟨R, hR⟩ : ∃ R : Nat → Int32, R = (fun i => ar k (fr + i)) := ⟨_, rfl⟩
  refine lv_aload_n hx hb dX0_take_0 rfl (lv_at hl 0 rfl) ?_
  refine lv_iload_n hx hb dX0_take_1 rfl (lv_at hl 3 rfl) ?_
  refine backV h (runV (As := [.int (nI (cnt))]) (rest := []) C h (k_empty l z v sc ar cnt hc4) gv_X0_28 gv_X0_28_n ⟨rfl, rfl⟩ (r_Census C h) rfl hl.1 rfl (Nat.le_of_ble_eq_true rfl) dX0_take_2 ⟨Nat.le_of_ble_eq_true rfl, Nat.le_of_ble_eq_true rfl⟩ ⟨Nat.le_of_ble_eq_true rfl, Nat.le_of_ble_eq_true rfl⟩) (fun v_2 sc_2 ar_2 H locs p_2 h => ?_)
  obtain ⟨b, sl0, eu, hb1, hb9, hcb, hz⟩ := p_2
  have h : hH z v (va_up (va_up sc 9 (nI b)) 10 (nI 0)) (va_up ar 14 sl0) s H locs := uEq eu h
  refine lv_iconst (v := nI (0)) hx hb dX0_take_5 (by decide) ?_
  refine lv_istore (lv' := [(6, .int (nI (0))), (0, .ref (zad z 3)), (1, .ref (zad z k)), (2, .int (nI (fr))), (3, .int (nI (cnt))), (4, .int (nI (m))), (5, .ref (zad z (5 + f)))]) hx hb dX0_take_6 hl (by decide) rfl (fun ls hl => ?_)
  refine lpW6 (fun (i : Nat) (K : Nat) (sl : Nat → Int32) (kd : Nat → Int32) (T : Nat → Int32) (g : Nat → Int32) (H : Heap) (locs : List Loc) (ls : Array Slot) => (i ≤ cnt) ∧ (∃ kx po, cenI R b i K sl kd T g kx po) ∧ hH z v (va_up (va_up sc 9 (nI (b))) 10 (nI (K))) (A4 ar (23 + f) (kd) (T) (sl) (g)) s H locs ∧ lv_has ls 8 [(0, .ref (zad z 3)), (1, .ref (zad z k)), (2, .int (nI (fr))), (3, .int (nI (cnt))), (4, .int (nI (m))), (5, .ref (zad z (5 + f))), (6, .int (nI (i)))]) (fun (i : Nat) (K : Nat) (sl : Nat → Int32) (kd : Nat → Int32) (T : Nat → Int32) (g : Nat → Int32) => cnt - i) (fun i K sl kd T g ih_8 H locs ls hI => ?_) (0) (0) (sl0) (ar 15) (ar 16) (ar (23 + f)) ⟨Nat.zero_le _, ⟨_, _, cen_0 hz⟩, (by rw [A4_0 (show 23 ≤ 23 + f by omega)]; exact h), lv_sub hl [1, 2, 3, 4, 5, 6, 0] rfl⟩
  obtain ⟨h1, h3, h, hl⟩ := hI
  obtain ⟨kx, po, hce⟩ := h3
  have hKi := hce.2.1
  have hRi : R i = ar k (fr + i) := by rw [hR]
  refine lv_iload hx hb dX0_take_8 (lv_at hl 6 rfl) ?_
  refine lv_iload_n hx hb dX0_take_10 rfl (lv_at hl 3 rfl) ?_
  refine jN_ge (tgt := 53) (a := i) (b := cnt) C (by omega) (by omega) dX0_take_11 (by decide) (fun c_11 => ?_) (fun c_11 => ?_)
  · skip
    have hic : i = cnt := by omega
    rw [hic] at hce
    refine lv_aload_n hx hb dX0_take_53 rfl (lv_at hl 0 rfl) ?_
    refine lv_iload hx hb dX0_take_54 (lv_at hl 4 rfl) ?_
    refine lv_aload hx hb dX0_take_56 (lv_at hl 5 rfl) ?_
    refine rf_X0_41 hf C h dX0_take_58 ?_
    refine backV h (runV (As := [.int (nI (m)), .ref (zad z (19 + f))]) (rest := []) C h (k_chooseFav l z v (va_up (va_up sc 9 (nI (b))) 10 (nI (K))) (A4 ar (23 + f) (kd) (T) (sl) (g)) (fun j => cN R (kd j) cnt) K m (19 + f) rfl (by omega) (fun j hj => by rw [A4_16 (show 23 ≤ 23 + f by omega)]; exact Or.inl ⟨hce.2.2.2.2.2 j hj, by show cN R (kd j) cnt ≤ 1000; have := cN_le R (kd j) cnt; omega⟩) hm hA4.1 hA4.2.1 (by omega) (by omega)) gv_X0_44 gv_X0_44_n ⟨rfl, rfl⟩ (r_Census C h) rfl hl.1 rfl (Nat.le_of_ble_eq_true rfl) dX0_take_61 ⟨Nat.le_of_ble_eq_true rfl, Nat.le_of_ble_eq_true rfl⟩ ⟨Nat.le_of_ble_eq_true rfl, Nat.le_of_ble_eq_true rfl⟩) (fun v_61 sc_61 ar_61 H locs p_61 h => ?_)
    rw [A4_15 (show 23 ≤ 23 + f by omega), A4_16 (show 23 ≤ 23 + f by omega), A4_o (by omega) (by omega) (by omega) (by omega), A4_F (show 23 ≤ 23 + f by omega) (by omega) (by omega) (by omega) (by omega)] at p_61
    have h : hH z v (va_up (va_up sc 9 (nI (b))) 10 (nI (K))) (A4 (va_up ar (19 + f) (wrR (ar (19 + f)) 0 (nI (fv (fun j => cN R (kd j) cnt) K m).length :: (fv (fun j => cN R (kd j) cnt) K m).map kd))) (23 + f) (kd) (tlA T (fv (fun j => cN R (kd j) cnt) K m)) (sl) (g)) s H locs := uEq p_61 h
    refine lv_iconst (v := nI (0)) hx hb dX0_take_64 (by decide) ?_
    refine lv_istore (lv' := [(6, .int (nI (0))), (0, .ref (zad z 3)), (1, .ref (zad z k)), (2, .int (nI (fr))), (3, .int (nI (cnt))), (4, .int (nI (m))), (5, .ref (zad z (5 + f)))]) hx hb dX0_take_65 hl (by decide) rfl (fun ls hl => ?_)
    refine lpW2 (fun (i2 : Nat) (g2 : Nat → Int32) (H : Heap) (locs : List Loc) (ls : Array Slot) => (i2 ≤ cnt) ∧ (∀ q, q < i2 → g2 q = nI (if kx q ∈ (fv (fun j => cN R (kd j) cnt) K m) then (fv (fun j => cN R (kd j) cnt) K m).idxOf (kx q) + 1 else 0)) ∧ (∀ q, i2 ≤ q → g2 q = g q) ∧ hH z v (va_up (va_up sc 9 (nI (b))) 10 (nI (K))) (A4 (va_up ar (19 + f) (wrR (ar (19 + f)) 0 (nI (fv (fun j => cN R (kd j) cnt) K m).length :: (fv (fun j => cN R (kd j) cnt) K m).map kd))) (23 + f) (kd) (tlA T (fv (fun j => cN R (kd j) cnt) K m)) (sl) (g2)) s H locs ∧ lv_has ls 8 [(0, .ref (zad z 3)), (3, .int (nI (cnt))), (5, .ref (zad z (5 + f))), (6, .int (nI (i2)))]) (fun (i2 : Nat) (g2 : Nat → Int32) => cnt - i2) (fun i2 g2 ih_67 H locs ls hI => ?_) (0) (g) ⟨Nat.zero_le _, fun _ q => absurd q (Nat.not_lt_zero _), fun _ _ => rfl, h, lv_sub hl [1, 4, 6, 0] rfl⟩
    obtain ⟨h7, h8, h9, h, hl⟩ := hI
    refine lv_iload hx hb dX0_take_67 (lv_at hl 3 rfl) ?_
    refine lv_iload_n hx hb dX0_take_69 rfl (lv_at hl 1 rfl) ?_
    refine jN_ge (tgt := 105) (a := i2) (b := cnt) C (by omega) (by omega) dX0_take_70 (by decide) (fun c_70 => ?_) (fun c_70 => ?_)
    · skip
      exact rV C hr hlk h dX0_take_105 (Nat.le_of_ble_eq_true rfl) (Nat.le_of_ble_eq_true rfl) (⟨_, _, rfl, fun i h9 h10 => by rw [va_up_ne _ _ h10, va_up_ne _ _ h9], fun q a1 a2 a3 a4 a5 => by rw [A4_o a1 a2 a3 a5, va_up_ne _ _ a4], by rw [A4_o (by omega) (by omega) (by omega) (by omega), va_up_self, ← hR, favs_eq hce, List.length_map], fun i hi => by rw [A4_L, h8 i (by omega), ← hR, favs_eq hce, show ar k (fr + i) = R i by rw [hR], ← (hce.2.2.1 i (by omega)).2.2, tok_eq (fv_nd m _) (fun q hq => (fv_lt m _ q hq).1) (hce.2.2.1 i (by omega)).1 hce.1.2.2.2]⟩)
    · skip
      have hkx := (hce.2.2.1 i2 (by omega)).1
      refine lv_aload hx hb dX0_take_73 (lv_at hl 2 rfl) ?_
      refine rf_X0_36 hf C h dX0_take_75 ?_
      refine lv_iload hx hb dX0_take_78 (lv_at hl 3 rfl) ?_
      refine lv_iconst (v := nI (0)) hx hb dX0_take_80 (by decide) ?_
      refine lv_aload_n hx hb dX0_take_81 rfl (lv_at hl 0 rfl) ?_
      refine rg_X0_22 C h dX0_take_82 ?_
      refine lv_aload hx hb dX0_take_85 (lv_at hl 2 rfl) ?_
      refine rf_X0_36 hf C h dX0_take_87 ?_
      refine lv_iload hx hb dX0_take_90 (lv_at hl 3 rfl) ?_
      refine ldA (23 + f) hA4.2.2.1 (j := i2) (by rw [hA4.2.2.2]; omega) (by rw [hA4.2.2.2]; decide) C h dX0_take_92 ?_
      refine tI (y := nI (kx i2)) ((congrFun A4_L _).trans ((h9 i2 (Nat.le_refl _)).trans (hce.2.2.1 i2 (by omega)).2.1)) ?_
      refine ldA 16 rfl (j := kx i2) (show kx i2 < 400 by omega) (by decide) C h dX0_take_93 ?_
      refine tI (y := tlA T (fv (fun j => cN R (kd j) cnt) K m) (kx i2)) (congrFun (A4_16 (show 23 ≤ 23 + f by omega)) _) ?_
      refine lv_ineg hx hb dX0_take_94 ?_
      refine mmax C hl.1 um_X0_48 (Nat.le_of_ble_eq_true rfl) (Nat.le_of_ble_eq_true rfl) (Nat.zero_le _) (Nat.zero_le _) dX0_take_95 ?_
      refine tI (y := nI (if kx i2 ∈ (fv (fun j => cN R (kd j) cnt) K m) then (fv (fun j => cN R (kd j) cnt) K m).idxOf (kx i2) + 1 else 0)) (max_tl (hce.2.2.2.2.2 (kx i2) hkx) (by have := cN_le R (kd (kx i2)) cnt; omega) (Nat.le_trans (fv_len m _) hm)) ?_
      refine stA (23 + f) hA4.2.2.1 (j := i2) (x := nI (if kx i2 ∈ (fv (fun j => cN R (kd j) cnt) K m) then (fv (fun j => cN R (kd j) cnt) K m).idxOf (kx i2) + 1 else 0)) (by rw [hA4.2.2.2]; omega) (by rw [hA4.2.2.2]; decide) C h dX0_take_98 (fun H locs h => ?_)
      rw [A4_g, A4_L] at h
      have h : hH z v (va_up (va_up sc 9 (nI (b))) 10 (nI (K))) (A4 (va_up ar (19 + f) (wrR (ar (19 + f)) 0 (nI (fv (fun j => cN R (kd j) cnt) K m).length :: (fv (fun j => cN R (kd j) cnt) K m).map kd))) (23 + f) (kd) (tlA T (fv (fun j => cN R (kd j) cnt) K m)) (sl) (upd g2 i2 (nI (if kx i2 ∈ (fv (fun j => cN R (kd j) cnt) K m) then (fv (fun j => cN R (kd j) cnt) K m).idxOf (kx i2) + 1 else 0)))) s H locs := h
      refine lv_iinc (v := nI (i2 + 1)) (lv' := [(6, .int (nI (i2 + 1))), (0, .ref (zad z 3)), (3, .int (nI (cnt))), (5, .ref (zad z (5 + f)))]) hx hb dX0_take_99 hl (k := 3) rfl (nN_inc _) (by decide) rfl (fun ls hl => ?_)
      refine lv_goto (tgt := 67) hx hb dX0_take_102 (by decide) ?_
      exact ih_67 (i2 + 1) (upd g2 i2 (nI (if kx i2 ∈ (fv (fun j => cN R (kd j) cnt) K m) then (fv (fun j => cN R (kd j) cnt) K m).idxOf (kx i2) + 1 else 0))) (by omega) H locs ls ⟨by omega, fun q hq => by by_cases e : q = i2; rw [e, pk_us]; rw [pk_un e]; exact h8 q (by omega), fun q hq => by rw [pk_un (by omega)]; exact h9 q (by omega), h, lv_sub hl [1, 2, 3, 0] rfl⟩
  · skip
    refine lv_aload_n hx hb dX0_take_14 rfl (lv_at hl 0 rfl) ?_
    refine lv_aload_n hx hb dX0_take_15 rfl (lv_at hl 1 rfl) ?_
    refine lv_iload_n hx hb dX0_take_16 rfl (lv_at hl 2 rfl) ?_
    refine lv_iload hx hb dX0_take_17 (lv_at hl 6 rfl) ?_
    refine lv_iadd hx hb dX0_take_19 ?_
    refine tI (nI_add _ _) ?_
    refine ldA k hk (j := (fr) + (i)) (by omega) hkL C h dX0_take_20 ?_
    refine tI (y := ar k (fr + i)) (congrFun (A4_o hk1 hk2 hk3 hk5) _) ?_
    refine backI h (runV (As := [.int (ar k (fr + i))]) (rest := []) C h (k_kindOf l z v (va_up (va_up sc 9 (nI (b))) 10 (nI (K))) (A4 ar (23 + f) (kd) (T) (sl) (g)) b K (ar k (fr + i)) rfl hb1 hb9 rfl (by omega) (by omega) (by rw [A4_14 (show 23 ≤ 23 + f by omega), A4_15 (show 23 ≤ 23 + f by omega)]; exact hce.1)) gv_X0_32 gv_X0_32_n ⟨rfl, rfl⟩ (r_Census C h) rfl hl.1 rfl (Nat.le_of_ble_eq_true rfl) dX0_take_21 ⟨Nat.le_of_ble_eq_true rfl, Nat.le_of_ble_eq_true rfl⟩ ⟨Nat.le_of_ble_eq_true rfl, Nat.le_of_ble_eq_true rfl⟩) (fun r_21 v_21 sc_21 ar_21 H locs p_21 h => ?_)
    obtain ⟨j, er, hj⟩ := p_21
    rcases hj with ⟨hj, ej, eu⟩ | ⟨ej, hno, sl1, hsl, eu⟩
    · skip
      refine tI (y := nI j) er ?_
      rw [A4_15 (show 23 ≤ 23 + f by omega)] at ej
      have h : hH z v (va_up (va_up sc 9 (nI (b))) 10 (nI (K))) (A4 ar (23 + f) (kd) (T) (sl) (g)) s H locs := uEq eu h
      refine lv_istore (lv' := [(7, .int (nI (j))), (0, .ref (zad z 3)), (1, .ref (zad z k)), (2, .int (nI (fr))), (3, .int (nI (cnt))), (4, .int (nI (m))), (5, .ref (zad z (5 + f))), (6, .int (nI (i)))]) hx hb dX0_take_24 hl (by decide) rfl (fun ls hl => ?_)
      refine lv_aload_n hx hb dX0_take_26 rfl (lv_at hl 1 rfl) ?_
      refine rg_X0_22 C h dX0_take_27 ?_
      refine lv_iload hx hb dX0_take_30 (lv_at hl 0 rfl) ?_
      refine lv_dup2_11 hx hb dX0_take_32 rfl rfl ?_
      refine ldA 16 rfl (j := j) (show j < 400 by omega) (by decide) C h dX0_take_33 ?_
      refine tI (y := nI (cN R (kd j) i)) ((congrFun (A4_16 (show 23 ≤ 23 + f by omega)) _).trans (hce.2.2.2.2.2 j hj)) ?_
      refine lv_iconst (v := nI (1)) hx hb dX0_take_34 (by decide) ?_
      refine lv_iadd hx hb dX0_take_35 ?_
      refine tI (nI_add _ _) ?_
      refine stA 16 rfl (j := j) (x := nI ((cN R (kd j) i) + (1))) (show j < 400 by omega) (by decide) C h dX0_take_36 (fun H locs h => ?_)
      rw [A4_T (show 23 ≤ 23 + f by omega), A4_16 (show 23 ≤ 23 + f by omega)] at h
      have h : hH z v (va_up (va_up sc 9 (nI (b))) 10 (nI (K))) (A4 ar (23 + f) (kd) (upd T j (nI (cN R (kd j) i + 1))) (sl) (g)) s H locs := h
      refine lv_aload hx hb dX0_take_37 (lv_at hl 6 rfl) ?_
      refine rf_X0_36 hf C h dX0_take_39 ?_
      refine lv_iload hx hb dX0_take_42 (lv_at hl 7 rfl) ?_
      refine lv_iload hx hb dX0_take_44 (lv_at hl 0 rfl) ?_
      refine stA (23 + f) hA4.2.2.1 (j := i) (x := nI (j)) (by rw [hA4.2.2.2]; omega) (by rw [hA4.2.2.2]; decide) C h dX0_take_46 (fun H locs h => ?_)
      rw [A4_g, A4_L] at h
      have h : hH z v (va_up (va_up sc 9 (nI (b))) 10 (nI (K))) (A4 ar (23 + f) (kd) (upd T j (nI (cN R (kd j) i + 1))) (sl) (upd g i (nI j))) s H locs := h
      refine lv_iinc (v := nI (i + 1)) (lv' := [(6, .int (nI (i + 1))), (7, .int (nI (j))), (0, .ref (zad z 3)), (1, .ref (zad z k)), (2, .int (nI (fr))), (3, .int (nI (cnt))), (4, .int (nI (m))), (5, .ref (zad z (5 + f)))]) hx hb dX0_take_47 hl (k := 7) rfl (nN_inc _) (by decide) rfl (fun ls hl => ?_)
      refine lv_goto (tgt := 8) hx hb dX0_take_50 (by decide) ?_
      exact ih_8 (i + 1) (K) (sl) (kd) (upd T j (nI (cN R (kd j) i + 1))) (upd g i (nI j)) (by omega) H locs ls ⟨by omega, ⟨_, _, cen_old hce hj (ej.trans hRi.symm)⟩, h, lv_sub hl [2, 3, 4, 5, 6, 7, 0] rfl⟩
    · skip
      rw [A4_15 (show 23 ≤ 23 + f by omega)] at hno hsl eu
      rw [A4_16 (show 23 ≤ 23 + f by omega), A4_new (show 23 ≤ 23 + f by omega), va_uu] at eu
      refine tI (y := nI K) (by rw [er, ej]) ?_
      have h : hH z v (va_up (va_up sc 9 (nI (b))) 10 (nI (K + 1))) (A4 ar (23 + f) (upd kd K (ar k (fr + i))) (upd T K (nI 0)) (sl1) (g)) s H locs := uEq eu h
      refine lv_istore (lv' := [(7, .int (nI (K))), (0, .ref (zad z 3)), (1, .ref (zad z k)), (2, .int (nI (fr))), (3, .int (nI (cnt))), (4, .int (nI (m))), (5, .ref (zad z (5 + f))), (6, .int (nI (i)))]) hx hb dX0_take_24 hl (by decide) rfl (fun ls hl => ?_)
      refine lv_aload_n hx hb dX0_take_26 rfl (lv_at hl 1 rfl) ?_
      refine rg_X0_22 C h dX0_take_27 ?_
      refine lv_iload hx hb dX0_take_30 (lv_at hl 0 rfl) ?_
      refine lv_dup2_11 hx hb dX0_take_32 rfl rfl ?_
      refine ldA 16 rfl (j := K) (show K < 400 by omega) (by decide) C h dX0_take_33 ?_
      refine tI (y := nI (0)) ((congrFun (A4_16 (show 23 ≤ 23 + f by omega)) _).trans pk_us) ?_
      refine lv_iconst (v := nI (1)) hx hb dX0_take_34 (by decide) ?_
      refine lv_iadd hx hb dX0_take_35 ?_
      refine tI (y := nI (1)) (by decide) ?_
      refine stA 16 rfl (j := K) (x := nI (1)) (show K < 400 by omega) (by decide) C h dX0_take_36 (fun H locs h => ?_)
      rw [A4_T (show 23 ≤ 23 + f by omega), A4_16 (show 23 ≤ 23 + f by omega)] at h
      have h : hH z v (va_up (va_up sc 9 (nI (b))) 10 (nI (K + 1))) (A4 ar (23 + f) (upd kd K (ar k (fr + i))) (upd (upd T K (nI 0)) K (nI (0 + 1))) (sl1) (g)) s H locs := h
      refine lv_aload hx hb dX0_take_37 (lv_at hl 6 rfl) ?_
      refine rf_X0_36 hf C h dX0_take_39 ?_
      refine lv_iload hx hb dX0_take_42 (lv_at hl 7 rfl) ?_
      refine lv_iload hx hb dX0_take_44 (lv_at hl 0 rfl) ?_
      refine stA (23 + f) hA4.2.2.1 (j := i) (x := nI (K)) (by rw [hA4.2.2.2]; omega) (by rw [hA4.2.2.2]; decide) C h dX0_take_46 (fun H locs h => ?_)
      rw [A4_g, A4_L] at h
      have h : hH z v (va_up (va_up sc 9 (nI (b))) 10 (nI (K + 1))) (A4 ar (23 + f) (upd kd K (ar k (fr + i))) (upd (upd T K (nI 0)) K (nI (0 + 1))) (sl1) (upd g i (nI K))) s H locs := h
      refine lv_iinc (v := nI (i + 1)) (lv' := [(6, .int (nI (i + 1))), (7, .int (nI (K))), (0, .ref (zad z 3)), (1, .ref (zad z k)), (2, .int (nI (fr))), (3, .int (nI (cnt))), (4, .int (nI (m))), (5, .ref (zad z (5 + f)))]) hx hb dX0_take_47 hl (k := 7) rfl (nN_inc _) (by decide) rfl (fun ls hl => ?_)
      refine lv_goto (tgt := 8) hx hb dX0_take_50 (by decide) ?_
      exact ih_8 (i + 1) (K + 1) (sl1) (upd kd K (ar k (fr + i))) (upd (upd T K (nI 0)) K (nI (0 + 1))) (upd g i (nI K)) (by omega) H locs ls ⟨by omega, by rw [← hRi] at hno hsl ⊢; exact ⟨_, _, cen_new hce hno hsl⟩, h, lv_sub hl [2, 3, 4, 5, 6, 7, 0] rfl⟩
end
section
/-- the numbers whose token is 0 -/
def oth (R : Nat → Int32) (t : Nat → Nat) : Nat → List Int32
  | 0 => []
  | n + 1 => oth R t n ++ (if t n = 0 then [R n] else [])
theorem oth_le (R : Nat → Int32) (t : Nat → Nat) : ∀ n, (oth R t n).length ≤ n
  | 0 => Nat.le_refl _
  | n + 1 => by have := oth_le R t n; unfold oth; split <;> simp <;> omega
theorem oth_0 {R : Nat → Int32} {t : Nat → Nat} {n : Nat} (h : t n = 0) : oth R t (n + 1) = oth R t n ++ [R n] := by
  rw [show oth R t (n + 1) = oth R t n ++ (if t n = 0 then [R n] else []) from rfl, if_pos h]
theorem oth_1 {R : Nat → Int32} {t : Nat → Nat} {n : Nat} (h : 0 < t n) : oth R t (n + 1) = oth R t n := by
  rw [show oth R t (n + 1) = oth R t n ++ (if t n = 0 then [R n] else []) from rfl, if_neg (by omega), List.append_nil]
theorem wrR_hi {f : Nat → Int32} {p : Nat} {xs : List Int32} {j : Nat} (h : p + xs.length ≤ j) : wrR f p xs j = f j := by
  unfold wrR; rw [if_neg (by omega)]
theorem wrR_lo {f : Nat → Int32} {p : Nat} {xs : List Int32} {j : Nat} (h : j < p) : wrR f p xs j = f j := by
  unfold wrR; rw [if_neg (by omega)]
/-- how many tokens are 0, if all are tokens -/
def cO (kn : Nat) : List Int32 → Option Nat
  | [] => some 0
  | x :: xs => if x < 0 ∨ nI kn < x then none else (cO kn xs).map (fun q => q + if x = 0 then 1 else 0)
theorem cO_bad {kn : Nat} {x : Int32} {xs : List Int32} (h : x < 0 ∨ nI kn < x) : cO kn (x :: xs) = none := if_pos h
theorem cO_ok {kn : Nat} {x : Int32} {xs : List Int32} (h : ¬ x < 0) (h2 : x ≤ nI kn) : cO kn (x :: xs) = (cO kn xs).map (fun q => q + if x = 0 then 1 else 0) := if_neg (fun q => q.elim h (fun q => by
  rw [Int32.le_iff_toInt_le] at h2
  rw [Int32.lt_iff_toInt_lt] at q
  omega))
/-- tokens replaced -/
def rpL (F Ln : Nat → Int32) : Nat → List Int32 → List Int32
  | _, [] => []
  | o, x :: xs => if x = 0 then Ln o :: rpL F Ln (o + 1) xs else F x.toNatClampNeg :: rpL F Ln o xs
theorem rpL_len (F Ln : Nat → Int32) : ∀ (xs : List Int32) (o : Nat), (rpL F Ln o xs).length = xs.length
  | [], _ => rfl
  | x :: xs, o => by unfold rpL; split <;> simp [rpL_len F Ln xs]
theorem one_put {z : bZ} {v : bV} {sc : Nat → Int32} {ar : Nat → Nat → Int32} {s : State} {H : Heap} {locs : List Loc} {k p i : Nat} {xs : List Int32} {x : Int32} (hi : i = p + xs.length) (h : hH z v sc (va_up (va_up ar k (wrR (ar k) p xs)) k (upd (va_up ar k (wrR (ar k) p xs) k) i x)) s H locs) : hH z v sc (va_up ar k (wrR (ar k) p (xs ++ [x]))) s H locs := rr_put hi h
set_option maxHeartbeats 4000000 in
set_option maxRecDepth 100000 in
/-- Popular.gatherOthers -/
theorem k_gather (l : Launch) (z : bZ) (v : bV) (sc : Nat → Int32) (ar : Nat → Nat → Int32) (k fr cnt f : Nat) (R : Nat → Int32) (t : Nat → Nat) (hk : isA k = true) (hkL : aL k < 2 ^ 31) (hfc : fr + cnt ≤ aL k) (hc4 : cnt ≤ 400) (hf : f < 4) (hkf : k ≠ 23 + f) (hR : ∀ i, i < cnt → ar k (fr + i) = R i) (ht : ∀ i, i < cnt → ar (23 + f) i = nI (t i) ∧ t i < 2 ^ 31) : Met l yX4_gatherOthers (Cond.code yX4_gatherOthers cX4_gatherOthers 6 (some .int) :: uW) { frames := 0, cells := 0, slots := 0, locals := 0 } (pC z v sc ar [.ref (zad z k), .int (nI (fr)), .int (nI (cnt)), .ref (zad z (23 + f))]) (qI z (fun r u => r = nI (oth R t cnt).length ∧ u = (v, sc, va_up ar (23 + f) (wrR (ar (23 + f)) 0 (oth R t cnt))))) 0 0 (zA z) := by
  refine eM (by decide) (Nat.le_of_ble_eq_true rfl) ?_
  intro pP eE s mM below meth cC ls C hr hlk h hl
  have hx := C.1.1
  have hb := C.1.2.1
  have hl : lv_has ls 6 [(0, .ref (zad z k)), (1, .int (nI (fr))), (2, .int (nI (cnt))), (3, .ref (zad z (23 + f)))] := hl
  have hA4 := isA_fr hf
  refine lv_iconst (v := nI (0)) hx hb dX4_gatherOthers_0 (by decide) ?_
  refine lv_istore (lv' := [(4, .int (nI (0))), (0, .ref (zad z k)), (1, .int (nI (fr))), (2, .int (nI (cnt))), (3, .ref (zad z (23 + f)))]) hx hb dX4_gatherOthers_1 hl (by decide) rfl (fun ls hl => ?_)
  refine lv_iconst (v := nI (0)) hx hb dX4_gatherOthers_3 (by decide) ?_
  refine lv_istore (lv' := [(5, .int (nI (0))), (4, .int (nI (0))), (0, .ref (zad z k)), (1, .int (nI (fr))), (2, .int (nI (cnt))), (3, .ref (zad z (23 + f)))]) hx hb dX4_gatherOthers_4 hl (by decide) rfl (fun ls hl => ?_)
  refine lpW2 (fun (i : Nat) (ot : Nat) (H : Heap) (locs : List Loc) (ls : Array Slot) => (i ≤ cnt) ∧ (ot = (oth R t i).length) ∧ hH z v sc (va_up ar (23 + f) (wrR (ar (23 + f)) 0 (oth R t i))) s H locs ∧ lv_has ls 6 [(0, .ref (zad z k)), (1, .int (nI (fr))), (2, .int (nI (cnt))), (3, .ref (zad z (23 + f))), (4, .int (nI (ot))), (5, .int (nI (i)))]) (fun (i : Nat) (ot : Nat) => cnt - i) (fun i ot ih_6 H locs ls hI => ?_) (0) (0) ⟨Nat.zero_le _, rfl, (by rw [show oth R t 0 = [] from rfl, wrR_nil, va_us]; exact h), lv_sub hl [2, 3, 4, 5, 1, 0] rfl⟩
  obtain ⟨h1, h2, h, hl⟩ := hI
  have hle := oth_le R t i
  refine lv_iload hx hb dX4_gatherOthers_6 (lv_at hl 5 rfl) ?_
  refine lv_iload_n hx hb dX4_gatherOthers_8 rfl (lv_at hl 2 rfl) ?_
  refine jN_ge (tgt := 38) (a := i) (b := cnt) C (by omega) (by omega) dX4_gatherOthers_9 (by decide) (fun c_9 => ?_) (fun c_9 => ?_)
  · skip
    refine lv_iload hx hb dX4_gatherOthers_38 (lv_at hl 4 rfl) ?_
    exact rI C hr hlk h dX4_gatherOthers_40 (Nat.le_of_ble_eq_true rfl) (Nat.le_of_ble_eq_true rfl) (⟨by rw [h2, show i = cnt by omega], by rw [show i = cnt by omega]⟩)
  · skip
    have hti := ht i (by omega)
    have hti2 := hti.2
    refine lv_aload_n hx hb dX4_gatherOthers_12 rfl (lv_at hl 3 rfl) ?_
    refine lv_iload hx hb dX4_gatherOthers_13 (lv_at hl 5 rfl) ?_
    refine ldA (23 + f) hA4.2.2.1 (j := i) (by rw [hA4.2.2.2]; omega) (by rw [hA4.2.2.2]; decide) C h dX4_gatherOthers_15 ?_
    refine tI (y := nI (t i)) (by rw [va_up_self, wrR_hi (by omega)]; exact hti.1) ?_
    refine zN_ne (tgt := 32) (a := t i) C (by omega) dX4_gatherOthers_16 (by decide) (fun c_16 => ?_) (fun c_16 => ?_)
    · skip
      refine lv_iinc (v := nI (i + 1)) (lv' := [(5, .int (nI (i + 1))), (0, .ref (zad z k)), (1, .int (nI (fr))), (2, .int (nI (cnt))), (3, .ref (zad z (23 + f))), (4, .int (nI (ot)))]) hx hb dX4_gatherOthers_32 hl (k := 5) rfl (nN_inc _) (by decide) rfl (fun ls hl => ?_)
      refine lv_goto (tgt := 6) hx hb dX4_gatherOthers_35 (by decide) ?_
      exact ih_6 (i + 1) (ot) (by omega) H locs ls ⟨by omega, by rw [oth_1 c_16]; exact h2, (by rw [oth_1 c_16]; exact h), lv_sub hl [1, 2, 3, 4, 5, 0] rfl⟩
    · skip
      refine lv_aload_n hx hb dX4_gatherOthers_19 rfl (lv_at hl 3 rfl) ?_
      refine lv_iload hx hb dX4_gatherOthers_20 (lv_at hl 4 rfl) ?_
      refine lv_aload_n hx hb dX4_gatherOthers_22 rfl (lv_at hl 0 rfl) ?_
      refine lv_iload_n hx hb dX4_gatherOthers_23 rfl (lv_at hl 1 rfl) ?_
      refine lv_iload hx hb dX4_gatherOthers_24 (lv_at hl 5 rfl) ?_
      refine lv_iadd hx hb dX4_gatherOthers_26 ?_
      refine tI (nI_add _ _) ?_
      refine ldA k hk (j := (fr) + (i)) (by omega) hkL C h dX4_gatherOthers_27 ?_
      refine tI (y := R i) (by rw [va_up_ne _ _ hkf]; exact hR i (by omega)) ?_
      refine stA (23 + f) hA4.2.2.1 (j := ot) (x := R i) (by rw [hA4.2.2.2]; omega) (by rw [hA4.2.2.2]; decide) C h dX4_gatherOthers_28 (fun H locs h => ?_)
      rw [h2] at h
      have h := one_put (p := 0) (Nat.zero_add _).symm h
      refine lv_iinc (v := nI (ot + 1)) (lv' := [(4, .int (nI (ot + 1))), (0, .ref (zad z k)), (1, .int (nI (fr))), (2, .int (nI (cnt))), (3, .ref (zad z (23 + f))), (5, .int (nI (i)))]) hx hb dX4_gatherOthers_29 hl (k := 4) rfl (nN_inc _) (by decide) rfl (fun ls hl => ?_)
      refine lv_iinc (v := nI (i + 1)) (lv' := [(5, .int (nI (i + 1))), (4, .int (nI (ot + 1))), (0, .ref (zad z k)), (1, .int (nI (fr))), (2, .int (nI (cnt))), (3, .ref (zad z (23 + f)))]) hx hb dX4_gatherOthers_32 hl (k := 5) rfl (nN_inc _) (by decide) rfl (fun ls hl => ?_)
      refine lv_goto (tgt := 6) hx hb dX4_gatherOthers_35 (by decide) ?_
      exact ih_6 (i + 1) (ot + 1) (by omega) H locs ls ⟨by omega, by rw [oth_0 c_16]; simp [h2], (by rw [oth_0 c_16]; exact h), lv_sub hl [2, 3, 4, 5, 1, 0] rfl⟩
set_option maxHeartbeats 4000000 in
set_option maxRecDepth 100000 in
/-- Popular.countOthers -/
theorem k_count (l : Launch) (z : bZ) (v : bV) (sc : Nat → Int32) (ar : Nat → Nat → Int32) (k fr cnt kn : Nat) (hk : isA k = true) (hkL : aL k < 2 ^ 31) (hfc : fr + cnt ≤ aL k) (hc4 : cnt ≤ 400) (hkn : kn < 2 ^ 31) : Met l yX4_countOthers (Cond.code yX4_countOthers cX4_countOthers 6 (some .int) :: uW) { frames := 0, cells := 0, slots := 0, locals := 0 } (pC z v sc ar [.ref (zad z k), .int (nI (fr)), .int (nI (cnt)), .int (nI (kn))]) (qI z (fun r u => r = oI (cO kn (rowL (ar k) fr cnt)) ∧ u = (v, sc, ar))) 0 0 (zA z) := by
  refine eM (by decide) (Nat.le_of_ble_eq_true rfl) ?_
  intro pP eE s mM below meth cC ls C hr hlk h hl
  have hx := C.1.1
  have hb := C.1.2.1
  have hl : lv_has ls 6 [(0, .ref (zad z k)), (1, .int (nI (fr))), (2, .int (nI (cnt))), (3, .int (nI (kn)))] := hl
  refine lv_iconst (v := nI (0)) hx hb dX4_countOthers_0 (by decide) ?_
  refine lv_istore (lv' := [(4, .int (nI (0))), (0, .ref (zad z k)), (1, .int (nI (fr))), (2, .int (nI (cnt))), (3, .int (nI (kn)))]) hx hb dX4_countOthers_1 hl (by decide) rfl (fun ls hl => ?_)
  refine lv_iload_n hx hb dX4_countOthers_3 rfl (lv_at hl 2 rfl) ?_
  refine lv_istore (lv' := [(5, .int (nI (fr))), (4, .int (nI (0))), (0, .ref (zad z k)), (1, .int (nI (fr))), (2, .int (nI (cnt))), (3, .int (nI (kn)))]) hx hb dX4_countOthers_4 hl (by decide) rfl (fun ls hl => ?_)
  refine lpW2 (fun (i : Nat) (ot : Nat) (H : Heap) (locs : List Loc) (ls : Array Slot) => (fr ≤ i ∧ i ≤ fr + cnt) ∧ (cO kn (rowL (ar k) fr cnt) = (cO kn (rowL (ar k) i (fr + cnt - i))).map (fun q => q + ot)) ∧ hH z v sc ar s H locs ∧ lv_has ls 6 [(0, .ref (zad z k)), (1, .int (nI (fr))), (2, .int (nI (cnt))), (3, .int (nI (kn))), (4, .int (nI (ot))), (5, .int (nI (i)))]) (fun (i : Nat) (ot : Nat) => fr + cnt - i) (fun i ot ih_6 H locs ls hI => ?_) (fr) (0) ⟨⟨Nat.le_refl _, by omega⟩, by rw [show fr + cnt - fr = cnt by omega]; simp, h, lv_sub hl [2, 3, 4, 5, 1, 0] rfl⟩
  obtain ⟨h1, h3, h, hl⟩ := hI
  refine lv_iload hx hb dX4_countOthers_6 (lv_at hl 5 rfl) ?_
  refine lv_iload_n hx hb dX4_countOthers_8 rfl (lv_at hl 1 rfl) ?_
  refine lv_iload_n hx hb dX4_countOthers_9 rfl (lv_at hl 2 rfl) ?_
  refine lv_iadd hx hb dX4_countOthers_10 ?_
  refine tI (nI_add _ _) ?_
  refine jN_ge (tgt := 47) (a := i) (b := (fr) + (cnt)) C (by omega) (by omega) dX4_countOthers_11 (by decide) (fun c_11 => ?_) (fun c_11 => ?_)
  · skip
    refine lv_iload hx hb dX4_countOthers_47 (lv_at hl 4 rfl) ?_
    exact rI C hr hlk h dX4_countOthers_49 (Nat.le_of_ble_eq_true rfl) (Nat.le_of_ble_eq_true rfl) (⟨by rw [h3, show fr + cnt - i = 0 by omega]; simp [rowL, cO, oI], rfl⟩)
  · skip
    refine lv_aload_n hx hb dX4_countOthers_14 rfl (lv_at hl 0 rfl) ?_
    refine lv_iload hx hb dX4_countOthers_15 (lv_at hl 5 rfl) ?_
    refine ldA k hk (j := i) (by omega) hkL C h dX4_countOthers_17 ?_
    refine tI (y := (ar k) (i)) rfl ?_
    refine lv_if_lt (tgt := 29) hx hb dX4_countOthers_18 (by decide) (fun c_18 => ?_) (fun c_18 => ?_)
    · skip
      refine lv_iconst (v := (-1)) hx hb dX4_countOthers_29 (by decide) ?_
      exact rI C hr hlk h dX4_countOthers_30 (Nat.le_of_ble_eq_true rfl) (Nat.le_of_ble_eq_true rfl) (⟨by rw [h3, rowL_step (by omega), cO_bad (Or.inl c_18)]; rfl, rfl⟩)
    · skip
      refine lv_aload_n hx hb dX4_countOthers_21 rfl (lv_at hl 0 rfl) ?_
      refine lv_iload hx hb dX4_countOthers_22 (lv_at hl 5 rfl) ?_
      refine ldA k hk (j := i) (by omega) hkL C h dX4_countOthers_24 ?_
      refine tI (y := (ar k) (i)) rfl ?_
      refine lv_iload_n hx hb dX4_countOthers_25 rfl (lv_at hl 3 rfl) ?_
      refine lv_icmp_le (tgt := 31) hx hb dX4_countOthers_26 (by decide) (fun c_26 => ?_) (fun c_26 => ?_)
      · skip
        refine lv_aload_n hx hb dX4_countOthers_31 rfl (lv_at hl 0 rfl) ?_
        refine lv_iload hx hb dX4_countOthers_32 (lv_at hl 5 rfl) ?_
        refine ldA k hk (j := i) (by omega) hkL C h dX4_countOthers_34 ?_
        refine tI (y := (ar k) (i)) rfl ?_
        refine lv_if_ne (tgt := 41) hx hb dX4_countOthers_35 (by decide) (fun c_35 => ?_) (fun c_35 => ?_)
        · skip
          refine lv_iinc (v := nI (i + 1)) (lv' := [(5, .int (nI (i + 1))), (0, .ref (zad z k)), (1, .int (nI (fr))), (2, .int (nI (cnt))), (3, .int (nI (kn))), (4, .int (nI (ot)))]) hx hb dX4_countOthers_41 hl (k := 5) rfl (nN_inc _) (by decide) rfl (fun ls hl => ?_)
          refine lv_goto (tgt := 6) hx hb dX4_countOthers_44 (by decide) ?_
          exact ih_6 (i + 1) (ot) (by omega) H locs ls ⟨⟨by omega, by omega⟩, by rw [h3, rowL_step (by omega), cO_ok c_18 c_26, Option.map_map, if_neg c_35, show fr + cnt - i - 1 = fr + cnt - (i + 1) by omega]; first | rfl | (congr 1; funext q; simp only [Function.comp]; omega), h, lv_sub hl [1, 2, 3, 4, 5, 0] rfl⟩
        · skip
          refine lv_iinc (v := nI (ot + 1)) (lv' := [(4, .int (nI (ot + 1))), (0, .ref (zad z k)), (1, .int (nI (fr))), (2, .int (nI (cnt))), (3, .int (nI (kn))), (5, .int (nI (i)))]) hx hb dX4_countOthers_38 hl (k := 4) rfl (nN_inc _) (by decide) rfl (fun ls hl => ?_)
          refine lv_iinc (v := nI (i + 1)) (lv' := [(5, .int (nI (i + 1))), (4, .int (nI (ot + 1))), (0, .ref (zad z k)), (1, .int (nI (fr))), (2, .int (nI (cnt))), (3, .int (nI (kn)))]) hx hb dX4_countOthers_41 hl (k := 5) rfl (nN_inc _) (by decide) rfl (fun ls hl => ?_)
          refine lv_goto (tgt := 6) hx hb dX4_countOthers_44 (by decide) ?_
          exact ih_6 (i + 1) (ot + 1) (by omega) H locs ls ⟨⟨by omega, by omega⟩, by rw [h3, rowL_step (by omega), cO_ok c_18 c_26, Option.map_map, if_pos c_35, show fr + cnt - i - 1 = fr + cnt - (i + 1) by omega]; first | rfl | (congr 1; funext q; simp only [Function.comp]; omega), h, lv_sub hl [2, 3, 4, 5, 1, 0] rfl⟩
      · skip
        refine lv_iconst (v := (-1)) hx hb dX4_countOthers_29 (by decide) ?_
        exact rI C hr hlk h dX4_countOthers_30 (Nat.le_of_ble_eq_true rfl) (Nat.le_of_ble_eq_true rfl) (⟨by rw [h3, rowL_step (by omega), cO_bad (Or.inr (by rw [Int32.le_iff_toInt_le] at c_26; rw [Int32.lt_iff_toInt_lt]; omega))]; rfl, rfl⟩)
set_option maxHeartbeats 4000000 in
set_option maxRecDepth 100000 in
/-- Popular.replaceTokens -/
theorem k_replace (l : Launch) (z : bZ) (v : bV) (sc : Nat → Int32) (ar : Nat → Nat → Int32) (k fr cnt f : Nat) (hk : isA k = true) (hkL : aL k < 2 ^ 31) (hfc : fr + cnt ≤ aL k) (hc4 : cnt ≤ 400) (hf : f < 4) (hk1 : k ≠ 19 + f) (hk2 : k ≠ 23 + f) (ht : ∀ i, fr ≤ i → i < fr + cnt → ∃ t : Nat, t ≤ 50 ∧ ar k i = nI t) : Met l yX4_replaceTokens (Cond.code yX4_replaceTokens cX4_replaceTokens 6 none :: uW) { frames := 0, cells := 0, slots := 0, locals := 0 } (pC z v sc ar [.ref (zad z k), .int (nI (fr)), .int (nI (cnt)), .ref (zad z (5 + f))]) (qV z (fun u => u = (v, sc, va_up ar k (wrR (ar k) fr (rpL (ar (19 + f)) (ar (23 + f)) 0 (rowL (ar k) fr cnt)))))) 0 0 (zA z) := by
  refine eM (by decide) (Nat.le_of_ble_eq_true rfl) ?_
  intro pP eE s mM below meth cC ls C hr hlk h hl
  have hx := C.1.1
  have hb := C.1.2.1
  have hl : lv_has ls 6 [(0, .ref (zad z k)), (1, .int (nI (fr))), (2, .int (nI (cnt))), (3, .ref (zad z (5 + f)))] := hl
  have hA4 := isA_fr hf
  refine lv_iconst (v := nI (0)) hx hb dX4_replaceTokens_0 (by decide) ?_
  refine lv_istore (lv' := [(4, .int (nI (0))), (0, .ref (zad z k)), (1, .int (nI (fr))), (2, .int (nI (cnt))), (3, .ref (zad z (5 + f)))]) hx hb dX4_replaceTokens_1 hl (by decide) rfl (fun ls hl => ?_)
  refine lv_iload_n hx hb dX4_replaceTokens_3 rfl (lv_at hl 2 rfl) ?_
  refine lv_istore (lv' := [(5, .int (nI (fr))), (4, .int (nI (0))), (0, .ref (zad z k)), (1, .int (nI (fr))), (2, .int (nI (cnt))), (3, .ref (zad z (5 + f)))]) hx hb dX4_replaceTokens_4 hl (by decide) rfl (fun ls hl => ?_)
  refine lpW3 (fun (i : Nat) (ot : Nat) (done : List Int32) (H : Heap) (locs : List Loc) (ls : Array Slot) => (fr ≤ i ∧ i ≤ fr + cnt) ∧ (i = fr + done.length) ∧ (rpL (ar (19 + f)) (ar (23 + f)) 0 (rowL (ar k) fr cnt) = done ++ rpL (ar (19 + f)) (ar (23 + f)) ot (rowL (ar k) i (fr + cnt - i))) ∧ (ot ≤ i - fr) ∧ hH z v sc (va_up ar k (wrR (ar k) fr (done))) s H locs ∧ lv_has ls 6 [(0, .ref (zad z k)), (1, .int (nI (fr))), (2, .int (nI (cnt))), (3, .ref (zad z (5 + f))), (4, .int (nI (ot))), (5, .int (nI (i)))]) (fun (i : Nat) (ot : Nat) (done : List Int32) => fr + cnt - i) (fun i ot done ih_6 H locs ls hI => ?_) (fr) (0) ([]) ⟨⟨Nat.le_refl _, by omega⟩, rfl, by rw [show fr + cnt - fr = cnt by omega]; rfl, Nat.zero_le _, (by rw [wrR_nil, va_us]; exact h), lv_sub hl [2, 3, 4, 5, 1, 0] rfl⟩
  obtain ⟨h1, h2, h3, h4, h, hl⟩ := hI
  refine lv_iload hx hb dX4_replaceTokens_6 (lv_at hl 5 rfl) ?_
  refine lv_iload_n hx hb dX4_replaceTokens_8 rfl (lv_at hl 1 rfl) ?_
  refine lv_iload_n hx hb dX4_replaceTokens_9 rfl (lv_at hl 2 rfl) ?_
  refine lv_iadd hx hb dX4_replaceTokens_10 ?_
  refine tI (nI_add _ _) ?_
  refine jN_ge (tgt := 57) (a := i) (b := (fr) + (cnt)) C (by omega) (by omega) dX4_replaceTokens_11 (by decide) (fun c_11 => ?_) (fun c_11 => ?_)
  · skip
    exact rV C hr hlk h dX4_replaceTokens_57 (Nat.le_of_ble_eq_true rfl) (Nat.le_of_ble_eq_true rfl) (by rw [h3, show fr + cnt - i = 0 by omega]; simp [rowL, rpL])
  · skip
    obtain ⟨ti, hti⟩ := ht i (by omega) (by omega)
    have hti1 := hti.1
    refine lv_aload_n hx hb dX4_replaceTokens_14 rfl (lv_at hl 0 rfl) ?_
    refine lv_iload hx hb dX4_replaceTokens_15 (lv_at hl 5 rfl) ?_
    refine ldA k hk (j := i) (by omega) hkL C h dX4_replaceTokens_17 ?_
    refine tI (y := nI (ti)) (by rw [va_up_self, wrR_hi (by omega)]; exact hti.2) ?_
    refine zN_ne (tgt := 38) (a := ti) C (by omega) dX4_replaceTokens_18 (by decide) (fun c_18 => ?_) (fun c_18 => ?_)
    · skip
      refine lv_aload_n hx hb dX4_replaceTokens_38 rfl (lv_at hl 0 rfl) ?_
      refine lv_iload hx hb dX4_replaceTokens_39 (lv_at hl 5 rfl) ?_
      refine lv_aload_n hx hb dX4_replaceTokens_41 rfl (lv_at hl 3 rfl) ?_
      refine rf_X4_44 hf C h dX4_replaceTokens_42 ?_
      refine lv_aload_n hx hb dX4_replaceTokens_45 rfl (lv_at hl 0 rfl) ?_
      refine lv_iload hx hb dX4_replaceTokens_46 (lv_at hl 5 rfl) ?_
      refine ldA k hk (j := i) (by omega) hkL C h dX4_replaceTokens_48 ?_
      refine tI (y := nI (ti)) (by rw [va_up_self, wrR_hi (by omega)]; exact hti.2) ?_
      refine ldA (19 + f) hA4.1 (j := ti) (by rw [hA4.2.1]; omega) (by rw [hA4.2.1]; decide) C h dX4_replaceTokens_49 ?_
      refine tI (y := ar (19 + f) ti) (by rw [va_up_ne _ _ (Ne.symm hk1)]) ?_
      refine stA k hk (j := i) (x := ar (19 + f) ti) (by omega) hkL C h dX4_replaceTokens_50 (fun H locs h => ?_)
      have h := one_put h2 h
      refine lv_iinc (v := nI (i + 1)) (lv' := [(5, .int (nI (i + 1))), (0, .ref (zad z k)), (1, .int (nI (fr))), (2, .int (nI (cnt))), (3, .ref (zad z (5 + f))), (4, .int (nI (ot)))]) hx hb dX4_replaceTokens_51 hl (k := 5) rfl (nN_inc _) (by decide) rfl (fun ls hl => ?_)
      refine lv_goto (tgt := 6) hx hb dX4_replaceTokens_54 (by decide) ?_
      exact ih_6 (i + 1) (ot) (done ++ [ar (19 + f) ti]) (by omega) H locs ls ⟨⟨by omega, by omega⟩, by simp; omega, by rw [h3, rowL_step (by omega), rpL, if_neg (by rw [hti.2]; exact nI_ne0 c_18 (by omega)), hti.2, nI_clamp (by omega), show fr + cnt - i - 1 = fr + cnt - (i + 1) by omega]; simp, by omega, h, lv_sub hl [1, 2, 3, 4, 5, 0] rfl⟩
    · skip
      refine lv_aload_n hx hb dX4_replaceTokens_21 rfl (lv_at hl 0 rfl) ?_
      refine lv_iload hx hb dX4_replaceTokens_22 (lv_at hl 5 rfl) ?_
      refine lv_aload_n hx hb dX4_replaceTokens_24 rfl (lv_at hl 3 rfl) ?_
      refine rf_X4_54 hf C h dX4_replaceTokens_25 ?_
      refine lv_iload hx hb dX4_replaceTokens_28 (lv_at hl 4 rfl) ?_
      refine ldA (23 + f) hA4.2.2.1 (j := ot) (by rw [hA4.2.2.2]; omega) (by rw [hA4.2.2.2]; decide) C h dX4_replaceTokens_30 ?_
      refine tI (y := ar (23 + f) ot) (by rw [va_up_ne _ _ (Ne.symm hk2)]) ?_
      refine stA k hk (j := i) (x := ar (23 + f) ot) (by omega) hkL C h dX4_replaceTokens_31 (fun H locs h => ?_)
      have h := one_put h2 h
      refine lv_iinc (v := nI (ot + 1)) (lv' := [(4, .int (nI (ot + 1))), (0, .ref (zad z k)), (1, .int (nI (fr))), (2, .int (nI (cnt))), (3, .ref (zad z (5 + f))), (5, .int (nI (i)))]) hx hb dX4_replaceTokens_32 hl (k := 4) rfl (nN_inc _) (by decide) rfl (fun ls hl => ?_)
      refine lv_goto (tgt := 51) hx hb dX4_replaceTokens_35 (by decide) ?_
      refine lv_iinc (v := nI (i + 1)) (lv' := [(5, .int (nI (i + 1))), (4, .int (nI (ot + 1))), (0, .ref (zad z k)), (1, .int (nI (fr))), (2, .int (nI (cnt))), (3, .ref (zad z (5 + f)))]) hx hb dX4_replaceTokens_51 hl (k := 5) rfl (nN_inc _) (by decide) rfl (fun ls hl => ?_)
      refine lv_goto (tgt := 6) hx hb dX4_replaceTokens_54 (by decide) ?_
      exact ih_6 (i + 1) (ot + 1) (done ++ [ar (23 + f) ot]) (by omega) H locs ls ⟨⟨by omega, by omega⟩, by simp; omega, by rw [h3, rowL_step (by omega), rpL, if_pos (by rw [hti.2, c_18]; rfl), show fr + cnt - i - 1 = fr + cnt - (i + 1) by omega]; simp, by omega, h, lv_sub hl [2, 3, 4, 5, 1, 0] rfl⟩
end
