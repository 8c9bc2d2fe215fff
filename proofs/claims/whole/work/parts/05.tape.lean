/-- byte i of the first n -/
def tpAt (by_ : Nat → Int32) (n : Nat) (i : Int32) : Int32 := if i < 0 ∨ n ≤ i.toNatClampNeg then -1 else by_ i.toNatClampNeg &&& 255
theorem tpAt_nI {by_ : Nat → Int32} {n j : Nat} (hj : j < 2 ^ 31) : tpAt by_ n (nI j) = if j < n then by_ j &&& 255 else -1 := by
  unfold tpAt
  rw [nI_clamp hj]
  by_cases h : j < n
  · rw [if_neg (by intro q; rcases q with q | q; exact nI_pos hj q; omega), if_pos h]
  · rw [if_pos (Or.inr (by omega)), if_neg h]
theorem nZ {x : Int32} (h : x = 0 ∨ x = 1) : narrow .boolean (.int x) = .int x := by
  rcases h with rfl | rfl <;> rfl
theorem uEq {z : bZ} {v v' : bV} {sc sc' : Nat → Int32} {ar ar' : Nat → Nat → Int32} {s : State} {H : Heap} {locs : List Loc} (hu : ((v', sc', ar') : bS) = (v, sc, ar)) (h : hH z v' sc' ar' s H locs) : hH z v sc ar s H locs := by
  cases hu; exact h
theorem lN_ne0 {n : Nat} (h0 : 0 < n) (h : n < 2 ^ 63) : ¬ lN n = 0 := fun q => by
  have := (pk_lEQ h (by decide : 0 < 2 ^ 63)).mp q
  omega
theorem and255_ne (x : Int32) : ¬ x &&& 255 = -1 := by
  obtain ⟨j, hj, e⟩ := pk_andE x (m := 255) 8 (by decide)
  rw [e]
  intro q
  have h1 := congrArg Int32.toInt q
  rw [nI_toInt (by omega)] at h1
  have : (-1 : Int32).toInt = -1 := by decide
  omega
set_option maxHeartbeats 4000000 in
set_option maxRecDepth 100000 in
/-- Tape.byteAt -/
theorem k_byteAt (l : Launch) (z : bZ) (v : bV) (sc : Nat → Int32) (ar : Nat → Nat → Int32) (n : Nat) (i : Int32) (hn : sc 3 = nI n) (hn8 : n ≤ 8000) : Met l yX7_byteAt (Cond.code yX7_byteAt cX7_byteAt 2 (some .int) :: uW) { frames := 0, cells := 0, slots := 0, locals := 0 } (pC z v sc ar [.ref (zad z 2), .int (i)]) (qI z (fun r u => r = tpAt (ar 11) n i ∧ u = (v, sc, ar))) 0 0 (zA z) := by
  refine eM (by decide) (Nat.le_of_ble_eq_true rfl) ?_
  intro pP eE s mM below meth cC ls C hr hlk h hl
  have hx := C.1.1
  have hb := C.1.2.1
  have hl : lv_has ls 2 [(0, .ref (zad z 2)), (1, .int (i))] := hl
  refine lv_iload_n hx hb dX7_byteAt_0 rfl (lv_at hl 1 rfl) ?_
  refine lv_if_lt (tgt := 25) hx hb dX7_byteAt_1 (by decide) (fun c_1 => ?_) (fun c_1 => ?_)
  · skip
    have hi : tpAt (ar 11) n i = -1 := if_pos (Or.inl c_1)
    refine lv_iconst (v := (-1)) hx hb dX7_byteAt_25 (by decide) ?_
    exact rI C hr hlk h dX7_byteAt_26 (Nat.le_of_ble_eq_true rfl) (Nat.le_of_ble_eq_true rfl) (⟨hi.symm, rfl⟩)
  · skip
    refine lv_iload_n hx hb dX7_byteAt_4 rfl (lv_at hl 1 rfl) ?_
    refine lv_aload_n hx hb dX7_byteAt_5 rfl (lv_at hl 0 rfl) ?_
    refine rg_X7_15 C h dX7_byteAt_6 ?_
    refine tI (y := nI (n)) hn ?_
    refine lv_icmp_ge (tgt := 25) hx hb dX7_byteAt_9 (by decide) (fun c_9 => ?_) (fun c_9 => ?_)
    · skip
      have hi : tpAt (ar 11) n i = -1 := by
        obtain ⟨j, hj, rfl⟩ := nI_of c_1
        rw [tpAt_nI hj, if_neg (by have := (nI_leI (by omega) hj).mp c_9; omega)]
      refine lv_iconst (v := (-1)) hx hb dX7_byteAt_25 (by decide) ?_
      exact rI C hr hlk h dX7_byteAt_26 (Nat.le_of_ble_eq_true rfl) (Nat.le_of_ble_eq_true rfl) (⟨hi.symm, rfl⟩)
    · skip
      obtain ⟨j, hj, rfl⟩ : ∃ j : Nat, j < n ∧ i = nI j := by
        obtain ⟨j, hj, rfl⟩ := nI_of c_1
        exact ⟨j, by by_cases q : j < n; exact q; exact absurd ((nI_leI (by omega) hj).mpr (by omega)) c_9, rfl⟩
      refine lv_aload_n hx hb dX7_byteAt_12 rfl (lv_at hl 0 rfl) ?_
      refine rg_X7_9 C h dX7_byteAt_13 ?_
      refine lv_iload_n hx hb dX7_byteAt_16 rfl (lv_at hl 1 rfl) ?_
      refine ldB (j := j) (by omega) C h dX7_byteAt_17 ?_
      refine tI (y := (ar 11) (j)) rfl ?_
      refine lv_sipush (v := nI (255)) hx hb dX7_byteAt_18 (by decide) ?_
      refine lv_iand hx hb dX7_byteAt_21 ?_
      refine lv_goto (tgt := 26) hx hb dX7_byteAt_22 (by decide) ?_
      exact rI C hr hlk h dX7_byteAt_26 (Nat.le_of_ble_eq_true rfl) (Nat.le_of_ble_eq_true rfl) (⟨by rw [tpAt_nI (by omega), if_pos hj]; rfl, rfl⟩)
set_option maxHeartbeats 4000000 in
set_option maxRecDepth 100000 in
/-- Tape.startDraft -/
theorem k_startDraft (l : Launch) (z : bZ) (v : bV) (sc : Nat → Int32) (ar : Nat → Nat → Int32)   : Met l yX7_startDraft (Cond.code yX7_startDraft cX7_startDraft 1 none :: uW) { frames := 0, cells := 0, slots := 0, locals := 0 } (pC z v sc ar [.ref (zad z 2)]) (qV z (fun u => u = (v, va_up sc 5 (nI 0), ar))) 0 0 (zA z) := by
  refine eM (by decide) (Nat.le_of_ble_eq_true rfl) ?_
  intro pP eE s mM below meth cC ls C hr hlk h hl
  have hx := C.1.1
  have hb := C.1.2.1
  have hl : lv_has ls 1 [(0, .ref (zad z 2))] := hl
  refine lv_aload_n hx hb dX7_startDraft_0 rfl (lv_at hl 0 rfl) ?_
  refine lv_iconst (v := nI (0)) hx hb dX7_startDraft_1 (by decide) ?_
  refine rp_X7_22 C h dX7_startDraft_2 (fun H locs h => ?_)
  exact rV C hr hlk h dX7_startDraft_5 (Nat.le_of_ble_eq_true rfl) (Nat.le_of_ble_eq_true rfl) (rfl)
set_option maxHeartbeats 4000000 in
set_option maxRecDepth 100000 in
/-- Tape.draft -/
theorem k_draft (l : Launch) (z : bZ) (v : bV) (sc : Nat → Int32) (ar : Nat → Nat → Int32) (n d : Nat) (x : Int32) (hn : sc 3 = nI n) (hn8 : n ≤ 8000) (hd : sc 5 = nI d) (hd9 : d < 2 ^ 30) : Met l yX7_draft (Cond.code yX7_draft cX7_draft 3 none :: uW) { frames := 0, cells := 0, slots := 0, locals := 0 } (pC z v sc ar [.ref (zad z 2), .int (x)]) (qV z (fun u => u = (v, va_up sc 5 (nI (d + 1)), if n + d < 8000 then va_up ar 11 (upd (ar 11) (n + d) x.toInt8.toInt32) else ar))) 0 0 (zA z) := by
  refine eM (by decide) (Nat.le_of_ble_eq_true rfl) ?_
  intro pP eE s mM below meth cC ls C hr hlk h hl
  have hx := C.1.1
  have hb := C.1.2.1
  have hl : lv_has ls 3 [(0, .ref (zad z 2)), (1, .int (x))] := hl
  refine lv_aload_n hx hb dX7_draft_0 rfl (lv_at hl 0 rfl) ?_
  refine rg_X7_15 C h dX7_draft_1 ?_
  refine tI (y := nI (n)) hn ?_
  refine lv_aload_n hx hb dX7_draft_4 rfl (lv_at hl 0 rfl) ?_
  refine rg_X7_22 C h dX7_draft_5 ?_
  refine tI (y := nI (d)) hd ?_
  refine lv_iadd hx hb dX7_draft_8 ?_
  refine tI (nI_add _ _) ?_
  refine lv_istore_n (lv' := [(2, .int (nI ((n) + (d)))), (0, .ref (zad z 2)), (1, .int (x))]) hx hb dX7_draft_9 rfl hl (by decide) rfl (fun ls hl => ?_)
  refine lv_iload_n hx hb dX7_draft_10 rfl (lv_at hl 0 rfl) ?_
  refine lv_sipush (v := nI (8000)) hx hb dX7_draft_11 (by decide) ?_
  refine jN_ge (tgt := 25) (a := (n) + (d)) (b := 8000) C (by omega) (by omega) dX7_draft_14 (by decide) (fun c_14 => ?_) (fun c_14 => ?_)
  · skip
    refine lv_aload_n hx hb dX7_draft_25 rfl (lv_at hl 1 rfl) ?_
    refine lv_dup hx hb dX7_draft_26 rfl ?_
    refine rg_X7_22 C h dX7_draft_27 ?_
    refine tI (y := nI (d)) hd ?_
    refine lv_iconst (v := nI (1)) hx hb dX7_draft_30 (by decide) ?_
    refine lv_iadd hx hb dX7_draft_31 ?_
    refine tI (nI_add _ _) ?_
    refine rp_X7_22 C h dX7_draft_32 (fun H locs h => ?_)
    exact rV C hr hlk h dX7_draft_35 (Nat.le_of_ble_eq_true rfl) (Nat.le_of_ble_eq_true rfl) (by rw [if_neg (by omega)])
  · skip
    refine lv_aload_n hx hb dX7_draft_17 rfl (lv_at hl 1 rfl) ?_
    refine rg_X7_9 C h dX7_draft_18 ?_
    refine lv_iload_n hx hb dX7_draft_21 rfl (lv_at hl 0 rfl) ?_
    refine lv_iload_n hx hb dX7_draft_22 rfl (lv_at hl 2 rfl) ?_
    refine lv_i2b (v := (x).toInt8.toInt32) hx hb dX7_draft_23 rfl ?_
    refine stB (j := (n) + (d)) (x := (x).toInt8.toInt32) (by omega) C h dX7_draft_24 (fun H locs h => ?_)
    refine lv_aload_n hx hb dX7_draft_25 rfl (lv_at hl 1 rfl) ?_
    refine lv_dup hx hb dX7_draft_26 rfl ?_
    refine rg_X7_22 C h dX7_draft_27 ?_
    refine tI (y := nI (d)) hd ?_
    refine lv_iconst (v := nI (1)) hx hb dX7_draft_30 (by decide) ?_
    refine lv_iadd hx hb dX7_draft_31 ?_
    refine tI (nI_add _ _) ?_
    refine rp_X7_22 C h dX7_draft_32 (fun H locs h => ?_)
    exact rV C hr hlk h dX7_draft_35 (Nat.le_of_ble_eq_true rfl) (Nat.le_of_ble_eq_true rfl) (by rw [if_pos (by omega), pk_vb])
theorem um_X7_34 : Cond.methodLink RX7 34 Lib.Math.min.name ∈ uW := uW_of (by decide +kernel) rfl
set_option maxHeartbeats 4000000 in
set_option maxRecDepth 100000 in
/-- Tape.keepDraft -/
theorem k_keepDraft (l : Launch) (z : bZ) (v : bV) (sc : Nat → Int32) (ar : Nat → Nat → Int32) (n d : Nat) (hn : sc 3 = nI n) (hn8 : n ≤ 8000) (hd : sc 5 = nI d) (hd9 : d < 2 ^ 30) : Met l yX7_keepDraft (Cond.code yX7_keepDraft cX7_keepDraft 1 none :: uW) { frames := 1, cells := 0, slots := 0, locals := 21 } (pC z v sc ar [.ref (zad z 2)]) (qV z (fun u => u = (v, va_up (va_up sc 3 (nI (min (n + d) 8000))) 5 (nI 0), ar))) 0 0 (zA z) := by
  refine eM (by decide) (Nat.le_of_ble_eq_true rfl) ?_
  intro pP eE s mM below meth cC ls C hr hlk h hl
  have hx := C.1.1
  have hb := C.1.2.1
  have hl : lv_has ls 1 [(0, .ref (zad z 2))] := hl
  refine lv_aload_n hx hb dX7_keepDraft_0 rfl (lv_at hl 0 rfl) ?_
  refine lv_aload_n hx hb dX7_keepDraft_1 rfl (lv_at hl 0 rfl) ?_
  refine rg_X7_15 C h dX7_keepDraft_2 ?_
  refine tI (y := nI (n)) hn ?_
  refine lv_aload_n hx hb dX7_keepDraft_5 rfl (lv_at hl 0 rfl) ?_
  refine rg_X7_22 C h dX7_keepDraft_6 ?_
  refine tI (y := nI (d)) hd ?_
  refine lv_iadd hx hb dX7_keepDraft_9 ?_
  refine tI (nI_add _ _) ?_
  refine lv_sipush (v := nI (8000)) hx hb dX7_keepDraft_10 (by decide) ?_
  refine mmin C hl.1 um_X7_34 (Nat.le_of_ble_eq_true rfl) (Nat.le_of_ble_eq_true rfl) (Nat.zero_le _) (Nat.zero_le _) dX7_keepDraft_13 ?_
  refine tI (nN_min (by omega) (by omega)) ?_
  refine rp_X7_15 C h dX7_keepDraft_16 (fun H locs h => ?_)
  refine lv_aload_n hx hb dX7_keepDraft_19 rfl (lv_at hl 0 rfl) ?_
  refine lv_iconst (v := nI (0)) hx hb dX7_keepDraft_20 (by decide) ?_
  refine rp_X7_22 C h dX7_keepDraft_21 (fun H locs h => ?_)
  exact rV C hr hlk h dX7_keepDraft_24 (Nat.le_of_ble_eq_true rfl) (Nat.le_of_ble_eq_true rfl) (rfl)
set_option maxHeartbeats 4000000 in
set_option maxRecDepth 100000 in
/-- Tape.startReading -/
theorem k_startReading (l : Launch) (z : bZ) (v : bV) (sc : Nat → Int32) (ar : Nat → Nat → Int32)   : Met l yX7_startReading (Cond.code yX7_startReading cX7_startReading 1 none :: uW) { frames := 0, cells := 0, slots := 0, locals := 0 } (pC z v sc ar [.ref (zad z 2)]) (qV z (fun u => u = (v, va_up sc 6 (sc 4), ar))) 0 0 (zA z) := by
  refine eM (by decide) (Nat.le_of_ble_eq_true rfl) ?_
  intro pP eE s mM below meth cC ls C hr hlk h hl
  have hx := C.1.1
  have hb := C.1.2.1
  have hl : lv_has ls 1 [(0, .ref (zad z 2))] := hl
  refine lv_aload_n hx hb dX7_startReading_0 rfl (lv_at hl 0 rfl) ?_
  refine lv_aload_n hx hb dX7_startReading_1 rfl (lv_at hl 0 rfl) ?_
  refine rg_X7_19 C h dX7_startReading_2 ?_
  refine tI (y := sc 4) rfl ?_
  refine rp_X7_25 C h dX7_startReading_5 (fun H locs h => ?_)
  exact rV C hr hlk h dX7_startReading_8 (Nat.le_of_ble_eq_true rfl) (Nat.le_of_ble_eq_true rfl) (rfl)
theorem gv_X7_40 : GoodIn uW (wsV RX7 40 RX7 yX7_byteAt (Cond.code yX7_byteAt cX7_byteAt 2 (some .int) :: uW)) := gI_V (uW_of (by decide +kernel) rfl) (uW_of (by decide +kernel) rfl) (uW_of (by decide +kernel) rfl) (uW_of (by decide +kernel) rfl) (uW_of (by decide +kernel) rfl)
theorem gv_X7_40_n : okN yX7_byteAt 1 := by decide +kernel
set_option maxHeartbeats 4000000 in
set_option maxRecDepth 100000 in
/-- Tape.next -/
theorem k_next (l : Launch) (z : bZ) (v : bV) (sc : Nat → Int32) (ar : Nat → Nat → Int32) (n cu : Nat) (hn : sc 3 = nI n) (hn8 : n ≤ 8000) (hc : sc 6 = nI cu) (hcu : cu ≤ n) : Met l yX7_next (Cond.code yX7_next cX7_next 2 (some .int) :: uW) { frames := 1, cells := 0, slots := 0, locals := 21 } (pC z v sc ar [.ref (zad z 2)]) (qI z (fun r u => (cu < n → r = ar 11 cu &&& 255 ∧ u = (v, va_up sc 6 (nI (cu + 1)), ar)) ∧ (n ≤ cu → r = -1 ∧ u = (v, sc, ar)))) 0 0 (zA z) := by
  refine eM (by decide) (Nat.le_of_ble_eq_true rfl) ?_
  intro pP eE s mM below meth cC ls C hr hlk h hl
  have hx := C.1.1
  have hb := C.1.2.1
  have hl : lv_has ls 2 [(0, .ref (zad z 2))] := hl
  refine lv_aload_n hx hb dX7_next_0 rfl (lv_at hl 0 rfl) ?_
  refine lv_aload_n hx hb dX7_next_1 rfl (lv_at hl 0 rfl) ?_
  refine rg_X7_25 C h dX7_next_2 ?_
  refine tI (y := nI (cu)) hc ?_
  refine backI h (runV (As := [.int (nI (cu))]) (rest := []) C h (k_byteAt l z v sc ar n (nI cu) hn hn8) gv_X7_40 gv_X7_40_n ⟨rfl, rfl⟩ (r_Tape C h) rfl hl.1 rfl (Nat.le_of_ble_eq_true rfl) dX7_next_5 ⟨Nat.le_of_ble_eq_true rfl, Nat.le_of_ble_eq_true rfl⟩ ⟨Nat.le_of_ble_eq_true rfl, Nat.le_of_ble_eq_true rfl⟩) (fun r_5 v_5 sc_5 ar_5 H locs p_5 h => ?_)
  have h : hH z v sc ar s H locs := uEq p_5.2 h
  refine tI (y := tpAt (ar 11) n (nI cu)) p_5.1 ?_
  refine lv_istore_n (lv' := [(1, .int (tpAt (ar 11) n (nI cu))), (0, .ref (zad z 2))]) hx hb dX7_next_8 rfl hl (by decide) rfl (fun ls hl => ?_)
  refine lv_iload_n hx hb dX7_next_9 rfl (lv_at hl 0 rfl) ?_
  refine lv_iconst (v := (-1)) hx hb dX7_next_10 (by decide) ?_
  refine lv_icmp_eq (tgt := 24) hx hb dX7_next_11 (by decide) (fun c_11 => ?_) (fun c_11 => ?_)
  · skip
    have hq : n ≤ cu := by
      by_cases q : cu < n
      · rw [tpAt_nI (by omega), if_pos q] at c_11
        exact absurd c_11 (and255_ne _)
      · omega
    refine lv_iload_n hx hb dX7_next_24 rfl (lv_at hl 0 rfl) ?_
    exact rI C hr hlk h dX7_next_25 (Nat.le_of_ble_eq_true rfl) (Nat.le_of_ble_eq_true rfl) (⟨fun q => absurd q (by omega), fun _ => ⟨by rw [tpAt_nI (by omega), if_neg (by omega)], rfl⟩⟩)
  · skip
    have hq : cu < n := by
      by_cases q : cu < n
      · exact q
      · rw [tpAt_nI (by omega), if_neg q] at c_11
        exact absurd rfl c_11
    refine lv_aload_n hx hb dX7_next_14 rfl (lv_at hl 1 rfl) ?_
    refine lv_dup hx hb dX7_next_15 rfl ?_
    refine rg_X7_25 C h dX7_next_16 ?_
    refine tI (y := nI (cu)) hc ?_
    refine lv_iconst (v := nI (1)) hx hb dX7_next_19 (by decide) ?_
    refine lv_iadd hx hb dX7_next_20 ?_
    refine tI (nI_add _ _) ?_
    refine rp_X7_25 C h dX7_next_21 (fun H locs h => ?_)
    refine lv_iload_n hx hb dX7_next_24 rfl (lv_at hl 0 rfl) ?_
    exact rI C hr hlk h dX7_next_25 (Nat.le_of_ble_eq_true rfl) (Nat.le_of_ble_eq_true rfl) (⟨fun _ => ⟨by rw [tpAt_nI (by omega), if_pos hq], rfl⟩, fun q => absurd q (by omega)⟩)
set_option maxHeartbeats 4000000 in
set_option maxRecDepth 100000 in
/-- Tape.keepReading -/
theorem k_keepReading (l : Launch) (z : bZ) (v : bV) (sc : Nat → Int32) (ar : Nat → Nat → Int32) (rf cu : Nat) (hf : sc 4 = nI rf) (hc : sc 6 = nI cu) (hcu : rf ≤ cu) : Met l yX7_keepReading (Cond.code yX7_keepReading cX7_keepReading 2 (some .int) :: uW) { frames := 0, cells := 0, slots := 0, locals := 0 } (pC z v sc ar [.ref (zad z 2)]) (qI z (fun r u => r = nI (cu - rf) ∧ u = (v, va_up sc 4 (nI cu), ar))) 0 0 (zA z) := by
  refine eM (by decide) (Nat.le_of_ble_eq_true rfl) ?_
  intro pP eE s mM below meth cC ls C hr hlk h hl
  have hx := C.1.1
  have hb := C.1.2.1
  have hl : lv_has ls 2 [(0, .ref (zad z 2))] := hl
  refine lv_aload_n hx hb dX7_keepReading_0 rfl (lv_at hl 0 rfl) ?_
  refine rg_X7_25 C h dX7_keepReading_1 ?_
  refine tI (y := nI (cu)) hc ?_
  refine lv_aload_n hx hb dX7_keepReading_4 rfl (lv_at hl 0 rfl) ?_
  refine rg_X7_19 C h dX7_keepReading_5 ?_
  refine tI (y := nI (rf)) hf ?_
  refine lv_isub hx hb dX7_keepReading_8 ?_
  refine tI (pk_sub (by omega)) ?_
  refine lv_istore_n (lv' := [(1, .int (nI ((cu) - (rf)))), (0, .ref (zad z 2))]) hx hb dX7_keepReading_9 rfl hl (by decide) rfl (fun ls hl => ?_)
  refine lv_aload_n hx hb dX7_keepReading_10 rfl (lv_at hl 1 rfl) ?_
  refine lv_aload_n hx hb dX7_keepReading_11 rfl (lv_at hl 1 rfl) ?_
  refine rg_X7_25 C h dX7_keepReading_12 ?_
  refine tI (y := nI (cu)) hc ?_
  refine rp_X7_19 C h dX7_keepReading_15 (fun H locs h => ?_)
  refine lv_iload_n hx hb dX7_keepReading_18 rfl (lv_at hl 0 rfl) ?_
  exact rI C hr hlk h dX7_keepReading_19 (Nat.le_of_ble_eq_true rfl) (Nat.le_of_ble_eq_true rfl) (⟨rfl, rfl⟩)
set_option maxHeartbeats 4000000 in
set_option maxRecDepth 100000 in
/-- Tape.fail -/
theorem k_fail (l : Launch) (z : bZ) (v : bV) (sc : Nat → Int32) (ar : Nat → Nat → Int32) (x y : Int32)  : Met l yX7_fail (Cond.code yX7_fail cX7_fail 3 (some .boolean) :: uW) { frames := 0, cells := 0, slots := 0, locals := 0 } (pC z v sc ar [.ref (zad z 2), .int (x), .int (y)]) (qI z (fun r u => r = 0 ∧ u = (v, va_up (va_up sc 7 x) 8 y, ar))) 0 0 (zA z) := by
  refine eM (by decide) (Nat.le_of_ble_eq_true rfl) ?_
  intro pP eE s mM below meth cC ls C hr hlk h hl
  have hx := C.1.1
  have hb := C.1.2.1
  have hl : lv_has ls 3 [(0, .ref (zad z 2)), (1, .int (x)), (2, .int (y))] := hl
  refine lv_aload_n hx hb dX7_fail_0 rfl (lv_at hl 0 rfl) ?_
  refine lv_iload_n hx hb dX7_fail_1 rfl (lv_at hl 1 rfl) ?_
  refine rp_X7_28 C h dX7_fail_2 (fun H locs h => ?_)
  refine lv_aload_n hx hb dX7_fail_5 rfl (lv_at hl 0 rfl) ?_
  refine lv_iload_n hx hb dX7_fail_6 rfl (lv_at hl 2 rfl) ?_
  refine rp_X7_31 C h dX7_fail_7 (fun H locs h => ?_)
  refine lv_iconst (v := nI (0)) hx hb dX7_fail_10 (by decide) ?_
  exact rZ C hr hlk h dX7_fail_11 rfl (Nat.le_of_ble_eq_true rfl) (Nat.le_of_ble_eq_true rfl) (⟨rfl, rfl⟩)
