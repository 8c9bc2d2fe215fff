/-! The law: the loop over the script. -/
def R_law : String := "BandMillLaw"
def lw_Q (_ : Array Value) (s : State) (o : Outcome) (t : State) : Prop := o = .returned (some (.int 1)) ∧ Framed s o t [] 601024 7293034
def lw_Z (below : List Frame) (a : Array Value) (s : State) : State → Prop := fun t => ∃ o, t.status = .running ∧ Ended t below o ∧ lw_Q a s o t
/-- the law's own end, with 1 on the stack, nothing written that was there before, its room as the claim has it -/
theorem lw_ret {p : Program} {l : Launch} {e : Env} {s : State} {m : MethodId} {below : List Frame} {meth : Method} {c : Code} {b : Nat} (hx : p.tables.exec = Jvm.exec) (hb : c.code = code) (hr : meth.sig.returnType = ret) (hlocks : meth.locks = false) {pc : Nat} {H : Heap} {ls : Array Slot} (hdg : decode code pc = .ok (.ireturn, 1)) : W p l e room_1 s m #[Value.ref b] below meth c H [] 601024 7293034 (lw_Z below #[Value.ref b] s) (F0 m pc ls [.int 1]) := by
  intro T hT X
  obtain ⟨fs, hret, hrun, hended, hW, hframe⟩ := X.leave (v := some (.int 1)) (hlocks := hlocks) (fun h => by rw [hr] at h; cases h)
  have hmeth' : T.vm.method? m = some meth := X.method'
  refine ⟨T.setFrames fs, ?_, .returned (some (.int 1)), hrun, hended, rfl, ⟨_, rfl⟩, hW, hframe⟩
  jvm_step X.here [X.here.top, hx, hb, hdg, hmeth', hr, ret, narrow_b1]
  (try refine ⟨rfl, ?_⟩); (try refine ⟨rfl, ?_⟩)
  first | (intro acts; rw [hret _ acts rfl rfl rfl]) | rw [hret _ _ rfl rfl rfl]
  exact Steps.refl _
theorem gt5 {i L : Nat} (hi : i ≤ 4000) (hL : L ≤ 2560) : Int32.ofNat L - nI 5 < nI i ↔ L < i + 5 := by
  rw [show Int32.ofNat L = nI L from rfl, Int32.lt_iff_toInt_lt, Int32.toInt_sub]
  have h1 := nI_toInt (show L < 2 ^ 31 by omega)
  have h2 := nI_toInt (show i < 2 ^ 31 by omega)
  have h3 : (nI 5).toInt = 5 := by decide
  rw [h1, h2, h3, Int.bmod_def]
  omega
theorem and31 (x : Int32) : ∃ k, k < 32 ∧ x &&& nI 31 = nI k := ⟨x.toBitVec.toNat % 32, Nat.mod_lt _ (by decide), pk_and x 5 (by decide)⟩

set_option maxHeartbeats 4000000 in
set_option maxRecDepth 100000 in
theorem lw_loop {p : Program} {l : Launch} {e : Env} {s : State} {m : MethodId} {below : List Frame} {meth : Method} {c : Code} {z : bZ} {b L : Nat} {xs : Nat → Int32} (C : cX z p m c cL_law 7 s #[Value.ref b] RL) (hl0 : l.stackTraces = false) (hr : meth.sig.returnType = ret) (hlk : meth.locks = false) (hX : va_X b L xs s s.heap ∧ b < s.heap.size ∧ ¬ zA z b ∧ L ≤ 2560) (hzA : ∀ q, zA z q → s.heap.size ≤ q) : ∀ (t i : Nat) (v : bV) (sc : Nat → Int32) (ar : Nat → Nat → Int32) (H : Heap) (locs : List Loc) (ls : Array Slot) (cells slots : Nat), L ≤ i + 5 * t → i + 5 * t ≤ 3000 → cells + 9 * t ≤ 601024 → slots + 60 * t ≤ 7293034 → JI v sc ar → hH z v sc ar s H locs → lv_has ls 7 (lvL z b i) → W p l e room_1 s m #[Value.ref b] below meth c H locs cells slots (lw_Z below #[Value.ref b] s) (F0 m 23 ls []) := by
  intro t
  have hx := C.1.1
  have hb := C.1.2.1
  have hL := hX.2.2.2
  induction t with
  | zero =>
    intro i v sc ar H locs ls cells slots hLi hi3 hce hsl J h hl
    have hl : lv_has ls 7 [(0, .ref (b)), (1, .ref (zad z 0)), (2, .ref (zad z 27)), (3, .ref (zad z 53)), (4, .int (nI (i)))] := hl
    refine lv_iload hx hb dL_law_23 (lv_at hl 4 rfl) ?_
    refine lv_aload_n hx hb dL_law_25 rfl (lv_at hl 0 rfl) ?_
    refine va_slen C.1.1 C.1.2.1 hX.1 hX.2.1 hX.2.2.1 h.2 dL_law_26 ?_
    refine lv_iconst (v := nI (5)) hx hb dL_law_27 (by decide) ?_
    refine lv_isub hx hb dL_law_28 ?_
    refine lv_icmp_gt (tgt := 1119) hx hb dL_law_29 (by decide) (fun c_29 => ?_) (fun c_29 => ?_)
    · skip
      refine lv_iconst (v := 1) hx hb dL_law_1119 (by decide) ?_
      refine va_forget (fun q hq => hzA _ (h.2.2.2 q hq)) ?_
      exact W.widen (by omega) (by omega) (lw_ret hx hb hr hlk dL_law_1120)
    · exact absurd ((gt5 (by omega) hL).mpr (by omega)) c_29
  | succ t ih =>
    intro i v sc ar H locs ls cells slots hLi hi3 hce hsl J h hl
    have hl : lv_has ls 7 [(0, .ref (b)), (1, .ref (zad z 0)), (2, .ref (zad z 27)), (3, .ref (zad z 53)), (4, .int (nI (i)))] := hl
    refine lv_iload hx hb dL_law_23 (lv_at hl 4 rfl) ?_
    refine lv_aload_n hx hb dL_law_25 rfl (lv_at hl 0 rfl) ?_
    refine va_slen C.1.1 C.1.2.1 hX.1 hX.2.1 hX.2.2.1 h.2 dL_law_26 ?_
    refine lv_iconst (v := nI (5)) hx hb dL_law_27 (by decide) ?_
    refine lv_isub hx hb dL_law_28 ?_
    refine lv_icmp_gt (tgt := 1119) hx hb dL_law_29 (by decide) (fun c_29 => ?_) (fun c_29 => ?_)
    · skip
      refine lv_iconst (v := 1) hx hb dL_law_1119 (by decide) ?_
      refine va_forget (fun q hq => hzA _ (h.2.2.2 q hq)) ?_
      exact W.widen (by omega) (by omega) (lw_ret hx hb hr hlk dL_law_1120)
    · skip
      have hi5 : i + 5 ≤ L := Nat.le_of_not_lt (fun q => c_29 ((gt5 (by omega) hL).mpr q))
      have kk : lK p l e s m #[Value.ref b] below meth c (lw_Z below #[Value.ref b] s) z b i cells slots := by
        intro v sc ar H locs ls cells1 slots1 J h hl hc hs
        have hl : lv_has ls 7 [(0, .ref (b)), (1, .ref (zad z 0)), (2, .ref (zad z 27)), (3, .ref (zad z 53)), (4, .int (nI (i)))] := hl
        refine lv_iinc (v := nI (i + 5)) (lv' := [(4, .int (nI (i + 5))), (0, .ref (b)), (1, .ref (zad z 0)), (2, .ref (zad z 27)), (3, .ref (zad z 53))]) hx hb dL_law_1113 hl (k := 4) rfl (nI_add _ _) (by decide) rfl (fun ls hl => ?_)
        refine lv_goto (tgt := 23) hx hb dL_law_1116 (by decide) ?_
        exact ih (i + 5) v sc ar H locs ls cells1 slots1 (by omega) (by omega) (by omega) (by omega) J h (lv_sub hl [1, 2, 3, 4, 0] rfl)
      refine lv_aload_n hx hb dL_law_32 rfl (lv_at hl 0 rfl) ?_
      refine lv_iload hx hb dL_law_33 (lv_at hl 4 rfl) ?_
      refine ldX C h hX (i := i) (by omega) dL_law_35 ?_
      refine lv_bipush (v := nI (31)) hx hb dL_law_36 (by decide) ?_
      refine lv_iand hx hb dL_law_38 ?_
      obtain ⟨k, hk, ek⟩ := and31 (xs i)
      refine tI (y := nI k) ek ?_
      have hks : k = 0 ∨ k = 1 ∨ k = 2 ∨ k = 3 ∨ k = 4 ∨ k = 5 ∨ k = 6 ∨ k = 7 ∨ k = 8 ∨ k = 9 ∨ k = 10 ∨ k = 11 ∨ k = 12 ∨ k = 13 ∨ k = 14 ∨ k = 15 ∨ k = 16 ∨ k = 17 ∨ k = 18 ∨ 19 ≤ k := by omega
      have hce1 : cells + 9 ≤ room_1.cells := by show cells + 9 ≤ 601024; omega
      have hsl1 : slots + 60 ≤ room_1.slots := by show slots + 60 ≤ 7293034; omega
      rcases hks with rfl | rfl | rfl | rfl | rfl | rfl | rfl | rfl | rfl | rfl | rfl | rfl | rfl | rfl | rfl | rfl | rfl | rfl | rfl | hk2
      · skip
        refine lv_tableIn (tgt := 128) (off := 89) hx hb dL_law_39 (by decide) (by decide) (by decide) (by decide) ?_
        exact lc_coding C hl0 hX hi5 J h hl hce1 hsl1 kk
      · skip
        refine lv_tableIn (tgt := 220) (off := 181) hx hb dL_law_39 (by decide) (by decide) (by decide) (by decide) ?_
        exact lc_run C hl0 hX hi5 J h hl hce1 hsl1 kk
      · skip
        refine lv_tableIn (tgt := 300) (off := 261) hx hb dL_law_39 (by decide) (by decide) (by decide) (by decide) ?_
        exact lc_popular C hl0 hX hi5 J h hl hce1 hsl1 kk
      · skip
        refine lv_tableIn (tgt := 392) (off := 353) hx hb dL_law_39 (by decide) (by decide) (by decide) (by decide) ?_
        exact lc_number C hl0 hX hi5 J h hl hce1 hsl1 kk
      · skip
        refine lv_tableIn (tgt := 448) (off := 409) hx hb dL_law_39 (by decide) (by decide) (by decide) (by decide) ?_
        exact lc_clear C hl0 hX hi5 J h hl hce1 hsl1 kk
      · skip
        refine lv_tableIn (tgt := 461) (off := 422) hx hb dL_law_39 (by decide) (by decide) (by decide) (by decide) ?_
        exact lc_row C hl0 hX hi5 J h hl hce1 hsl1 kk
      · skip
        refine lv_tableIn (tgt := 486) (off := 447) hx hb dL_law_39 (by decide) (by decide) (by decide) (by decide) ?_
        exact lc_cost C hl0 hX hi5 J h hl hce1 hsl1 kk
      · skip
        refine lv_tableIn (tgt := 542) (off := 503) hx hb dL_law_39 (by decide) (by decide) (by decide) (by decide) ?_
        exact lc_pack C hl0 hX hi5 J h hl hce1 hsl1 kk
      · skip
        refine lv_tableIn (tgt := 598) (off := 559) hx hb dL_law_39 (by decide) (by decide) (by decide) (by decide) ?_
        exact lc_unpack C hl0 hX hi5 J h hl hce1 hsl1 kk
      · skip
        refine lv_tableIn (tgt := 666) (off := 627) hx hb dL_law_39 (by decide) (by decide) (by decide) (by decide) ?_
        exact lc_place C hl0 hX hi5 J h hl hce1 hsl1 kk
      · skip
        refine lv_tableIn (tgt := 679) (off := 640) hx hb dL_law_39 (by decide) (by decide) (by decide) (by decide) ?_
        exact lc_best C hl0 hX hi5 J h hl hce1 hsl1 kk
      · skip
        refine lv_tableIn (tgt := 747) (off := 708) hx hb dL_law_39 (by decide) (by decide) (by decide) (by decide) ?_
        exact lc_bestRun C hl0 hX hi5 J h hl hce1 hsl1 kk
      · skip
        refine lv_tableIn (tgt := 760) (off := 721) hx hb dL_law_39 (by decide) (by decide) (by decide) (by decide) ?_
        exact lc_chosen C hl0 hX hi5 J h hl hce1 hsl1 kk
      · skip
        refine lv_tableIn (tgt := 816) (off := 777) hx hb dL_law_39 (by decide) (by decide) (by decide) (by decide) ?_
        exact lc_feed C hl0 hX hi5 J h hl hce1 hsl1 kk
      · skip
        refine lv_tableIn (tgt := 872) (off := 833) hx hb dL_law_39 (by decide) (by decide) (by decide) (by decide) ?_
        exact lc_end C hl0 hX hi5 J h hl hce1 hsl1 kk
      · skip
        refine lv_tableIn (tgt := 908) (off := 869) hx hb dL_law_39 (by decide) (by decide) (by decide) (by decide) ?_
        exact lc_seek C hl0 hX hi5 J h hl hce1 hsl1 kk
      · skip
        refine lv_tableIn (tgt := 964) (off := 925) hx hb dL_law_39 (by decide) (by decide) (by decide) (by decide) ?_
        exact lc_tape C hl0 hX hi5 J h hl hce1 hsl1 kk
      · skip
        refine lv_tableIn (tgt := 989) (off := 950) hx hb dL_law_39 (by decide) (by decide) (by decide) (by decide) ?_
        exact lc_way C hl0 hX hi5 J h hl hce1 hsl1 kk
      · skip
        refine lv_tableIn (tgt := 1057) (off := 1018) hx hb dL_law_39 (by decide) (by decide) (by decide) (by decide) ?_
        exact lc_about C hl0 hX hi5 J h hl hce1 hsl1 kk
      · skip
        refine lv_tableOut (tgt := 1113) hx hb dL_law_39 (Or.inr (by rw [nI_toInt (show k < 2 ^ 31 by omega)]; omega)) (by decide) ?_
        exact kk v sc ar H locs ls cells slots J h hl (by omega) (by omega)
