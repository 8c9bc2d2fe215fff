/-! BandMill: small methods. -/
theorem wayIn {K : Nat} {i : Int32} (hK : K ≤ 40) (h1 : ¬ i < nI 0) (h2 : ¬ nI K - 1 < i) : ∃ j, j < K ∧ i = nI j := by
  obtain ⟨j, hj, rfl⟩ := nI_of (x := i) h1
  refine ⟨j, ?_, rfl⟩
  rcases K with _ | K
  · exact absurd (show (nI 0 - 1 : Int32) < nI j from Int32.lt_iff_toInt_lt.mpr (by rw [nI_toInt hj]; show (-1 : Int) < _; omega)) h2
  · rw [show nI (K + 1) - 1 = nI K from pk_sub (a := K + 1) (b := 1) (by omega), nI_ltI (by omega) hj] at h2
    omega
theorem wayOut {K : Nat} {i : Int32} (hK : K ≤ 40) (h : i < nI 0 ∨ nI K - 1 < i) : ¬ ∃ j, j < K ∧ i = nI j := by
  rintro ⟨j, hj, rfl⟩
  rcases h with h | h
  · exact absurd h (nI_pos (by omega))
  · rcases K with _ | K
    · omega
    · rw [show nI (K + 1) - 1 = nI K from pk_sub (a := K + 1) (b := 1) (by omega), nI_ltI (by omega) (by omega)] at h
      omega
theorem numIn {M : Nat} {x : Int32} (hM : M < 2 ^ 31) (h1 : ¬ x < nI 0) (h2 : ¬ nI M < x) : ∃ j, j ≤ M ∧ x = nI j := by
  obtain ⟨j, hj, rfl⟩ := nI_of (x := x) h1
  exact ⟨j, by rw [nI_ltI hM hj] at h2; omega, rfl⟩
theorem numOut {M : Nat} {x : Int32} (hM : M < 2 ^ 31) (h : x < nI 0 ∨ nI M < x) : ¬ ∃ j, j ≤ M ∧ x = nI j := by
  rintro ⟨j, hj, rfl⟩
  rcases h with h | h
  · exact absurd h (nI_pos (by omega))
  · rw [nI_ltI hM (by omega)] at h; omega
set_option maxHeartbeats 4000000 in
set_option maxRecDepth 100000 in
theorem k_checkRange (l : Launch) (z : bZ) (v : bV) (sc : Nat → Int32) (ar : Nat → Nat → Int32) (hl0 : l.stackTraces = false) (x lo hi : Int32)  : vx_Met l yX9_checkRange (Cond.code yX9_checkRange cX9_checkRange 3 none :: uW) { frames := 6, cells := 1, slots := 6, locals := 90 } (pC z v sc ar [.int (x), .int (lo), .int (hi)]) (qV z (fun u => u = (v, sc, ar) ∧ ¬ x < lo ∧ ¬ hi < x)) (xX z (fun E u => E = xIA ∧ u = (v, sc, ar) ∧ (x < lo ∨ hi < x))) 1 6 (zA z) := by
  refine eX (by decide) (Nat.le_of_ble_eq_true rfl) ?_
  intro pP eE s mM below meth cC ls C hr hlk hT h hl
  have hx := C.1.1
  have hb := C.1.2.1
  have hl : lv_has ls 3 [(0, .int (x)), (1, .int (lo)), (2, .int (hi))] := hl
  refine lv_iload_n hx hb dX9_checkRange_0 rfl (lv_at hl 0 rfl) ?_
  refine lv_iload_n hx hb dX9_checkRange_1 rfl (lv_at hl 1 rfl) ?_
  refine lv_icmp_lt (tgt := 10) hx hb dX9_checkRange_2 (by decide) (fun c_2 => ?_) (fun c_2 => ?_)
  · skip
    exact xTA (is := 180) (text := "a number is not as it may be") C hl0 hT hlk h hl.1 (List.mem_of_getElem? (i := 2) rfl) dX9_checkRange_10 dX9_checkRange_13 dX9_checkRange_14 dX9_checkRange_16 dX9_checkRange_19 ⟨Nat.le_of_ble_eq_true rfl, Nat.le_of_ble_eq_true rfl⟩ ⟨Nat.le_of_ble_eq_true rfl, Nat.le_of_ble_eq_true rfl⟩ (Nat.le_of_ble_eq_true rfl) (Nat.le_of_ble_eq_true rfl) (Nat.le_of_ble_eq_true rfl) (⟨rfl, rfl, Or.inl c_2⟩)
  · skip
    refine lv_iload_n hx hb dX9_checkRange_5 rfl (lv_at hl 0 rfl) ?_
    refine lv_iload_n hx hb dX9_checkRange_6 rfl (lv_at hl 2 rfl) ?_
    refine lv_icmp_le (tgt := 20) hx hb dX9_checkRange_7 (by decide) (fun c_7 => ?_) (fun c_7 => ?_)
    · skip
      exact vx_ret (rV C hr hlk h dX9_checkRange_20 (Nat.le_of_ble_eq_true rfl) (Nat.le_of_ble_eq_true rfl) (⟨rfl, c_2, Int32.not_lt.mpr c_7⟩))
    · skip
      exact xTA (is := 180) (text := "a number is not as it may be") C hl0 hT hlk h hl.1 (List.mem_of_getElem? (i := 2) rfl) dX9_checkRange_10 dX9_checkRange_13 dX9_checkRange_14 dX9_checkRange_16 dX9_checkRange_19 ⟨Nat.le_of_ble_eq_true rfl, Nat.le_of_ble_eq_true rfl⟩ ⟨Nat.le_of_ble_eq_true rfl, Nat.le_of_ble_eq_true rfl⟩ (Nat.le_of_ble_eq_true rfl) (Nat.le_of_ble_eq_true rfl) (Nat.le_of_ble_eq_true rfl) (⟨rfl, rfl, Or.inr (Int32.not_le.mp c_7)⟩)
set_option maxHeartbeats 4000000 in
set_option maxRecDepth 100000 in
theorem k_checkRoomForWay (l : Launch) (z : bZ) (v : bV) (sc : Nat → Int32) (ar : Nat → Nat → Int32) (hl0 : l.stackTraces = false) (K d : Nat) (hK : sc 0 = nI K) (hK4 : K ≤ 40) (hd : d ≤ 1000) : vx_Met l yX9_checkRoomForWay (Cond.code yX9_checkRoomForWay cX9_checkRoomForWay 2 none :: uW) { frames := 6, cells := 1, slots := 6, locals := 90 } (pC z v sc ar [.ref (zad z 0), .int (nI (d))]) (qV z (fun u => u = (v, sc, ar) ∧ K < 40 ∧ d ≤ 4)) (xX z (fun E u => E = xIS ∧ u = (v, sc, ar) ∧ (40 ≤ K ∨ 4 < d))) 1 6 (zA z) := by
  refine eX (by decide) (Nat.le_of_ble_eq_true rfl) ?_
  intro pP eE s mM below meth cC ls C hr hlk hT h hl
  have hx := C.1.1
  have hb := C.1.2.1
  have hl : lv_has ls 2 [(0, .ref (zad z 0)), (1, .int (nI (d)))] := hl
  refine lv_aload_n hx hb dX9_checkRoomForWay_0 rfl (lv_at hl 0 rfl) ?_
  refine rg_X9_15 C h dX9_checkRoomForWay_1 ?_
  refine tI (y := nI (K)) hK ?_
  refine lv_bipush (v := nI (40)) hx hb dX9_checkRoomForWay_4 (by decide) ?_
  refine jN_lt (tgt := 19) (a := K) (b := 40) C (by omega) (by omega) dX9_checkRoomForWay_6 (by decide) (fun c_6 => ?_) (fun c_6 => ?_)
  · skip
    refine lv_iload_n hx hb dX9_checkRoomForWay_19 rfl (lv_at hl 1 rfl) ?_
    refine lv_iconst (v := nI (4)) hx hb dX9_checkRoomForWay_20 (by decide) ?_
    refine jN_le (tgt := 34) (a := d) (b := 4) C (by omega) (by omega) dX9_checkRoomForWay_21 (by decide) (fun c_21 => ?_) (fun c_21 => ?_)
    · skip
      exact vx_ret (rV C hr hlk h dX9_checkRoomForWay_34 (Nat.le_of_ble_eq_true rfl) (Nat.le_of_ble_eq_true rfl) (⟨rfl, c_6, c_21⟩))
    · skip
      exact xTS (is := 184) (text := "the way would be too deep") C hl0 hT hlk h hl.1 (List.mem_of_getElem? (i := 4) rfl) dX9_checkRoomForWay_24 dX9_checkRoomForWay_27 dX9_checkRoomForWay_28 dX9_checkRoomForWay_30 dX9_checkRoomForWay_33 ⟨Nat.le_of_ble_eq_true rfl, Nat.le_of_ble_eq_true rfl⟩ ⟨Nat.le_of_ble_eq_true rfl, Nat.le_of_ble_eq_true rfl⟩ (Nat.le_of_ble_eq_true rfl) (Nat.le_of_ble_eq_true rfl) (Nat.le_of_ble_eq_true rfl) (⟨rfl, rfl, Or.inr c_21⟩)
  · skip
    exact xTS (is := 182) (text := "there are 40 ways") C hl0 hT hlk h hl.1 (List.mem_of_getElem? (i := 3) rfl) dX9_checkRoomForWay_9 dX9_checkRoomForWay_12 dX9_checkRoomForWay_13 dX9_checkRoomForWay_15 dX9_checkRoomForWay_18 ⟨Nat.le_of_ble_eq_true rfl, Nat.le_of_ble_eq_true rfl⟩ ⟨Nat.le_of_ble_eq_true rfl, Nat.le_of_ble_eq_true rfl⟩ (Nat.le_of_ble_eq_true rfl) (Nat.le_of_ble_eq_true rfl) (Nat.le_of_ble_eq_true rfl) (⟨rfl, rfl, Or.inl c_6⟩)
set_option maxHeartbeats 4000000 in
set_option maxRecDepth 100000 in
theorem k_addWay (l : Launch) (z : bZ) (v : bV) (sc : Nat → Int32) (ar : Nat → Nat → Int32) (K a ci : Nat) (fs : List Value) (hK : sc 0 = nI K) (hK4 : K < 40) (ha : a ∈ v.2.2.1) (hf : v.2.2.2 a = .inr (ci, fs)) (hca : ∃ (r : vw_C) (i : Nat), vwCl[ci]? = some r ∧ nwC[i]? = some (.castable r.1 "BandMill$Way")) : Met l yX9_addWay (Cond.code yX9_addWay cX9_addWay 2 (some .int) :: uW) { frames := 0, cells := 0, slots := 0, locals := 0 } (pC z v sc ar [.ref (zad z 0), .ref (a)]) (qI z (fun r u => r = nI K ∧ u = ((va_up v.1 K (some a), v.2), va_up sc 0 (nI (K + 1)), ar))) 0 0 (zA z) := by
  refine eM (by decide) (Nat.le_of_ble_eq_true rfl) ?_
  intro pP eE s mM below meth cC ls C hr hlk h hl
  have hx := C.1.1
  have hb := C.1.2.1
  have hl : lv_has ls 2 [(0, .ref (zad z 0)), (1, .ref (a))] := hl
  refine lv_aload_n hx hb dX9_addWay_0 rfl (lv_at hl 0 rfl) ?_
  refine rg_X9_11 C h dX9_addWay_1 ?_
  refine lv_aload_n hx hb dX9_addWay_4 rfl (lv_at hl 0 rfl) ?_
  refine rg_X9_15 C h dX9_addWay_5 ?_
  refine tI (y := nI (K)) hK ?_
  refine lv_aload_n hx hb dX9_addWay_8 rfl (lv_at hl 1 rfl) ?_
  obtain ⟨rC, iC, hrC, hiC⟩ := hca
  refine rSt (j := K) C h hK4 ha hf hrC (C.2.2.2.2.2.2.2.2.2.1 _ (List.mem_of_getElem? hiC)) dX9_addWay_9 (fun H locs h => ?_)
  refine lv_aload_n hx hb dX9_addWay_10 rfl (lv_at hl 0 rfl) ?_
  refine lv_dup hx hb dX9_addWay_11 rfl ?_
  refine rg_X9_15 C h dX9_addWay_12 ?_
  refine tI (y := nI (K)) hK ?_
  refine lv_iconst (v := nI (1)) hx hb dX9_addWay_15 (by decide) ?_
  refine lv_iadd hx hb dX9_addWay_16 ?_
  refine tI (nI_add _ _) ?_
  refine rp_X9_15 C h dX9_addWay_17 (fun H locs h => ?_)
  refine lv_aload_n hx hb dX9_addWay_20 rfl (lv_at hl 0 rfl) ?_
  refine rg_X9_15 C h dX9_addWay_21 ?_
  refine tI (y := nI ((K) + (1))) rfl ?_
  refine lv_iconst (v := nI (1)) hx hb dX9_addWay_24 (by decide) ?_
  refine lv_isub hx hb dX9_addWay_25 ?_
  refine tI (pk_sub (by omega)) ?_
  exact rI C hr hlk h dX9_addWay_26 (Nat.le_of_ble_eq_true rfl) (Nat.le_of_ble_eq_true rfl) (⟨by rw [show K + 1 - 1 = K from rfl], rfl⟩)
theorem gv_X9_46 : GoodIn uW (va_wsS RX9 46 yX9_checkRange (Cond.code yX9_checkRange cX9_checkRange 3 none :: uW)) := gI_S (uW_of (by decide +kernel) rfl) (uW_of (by decide +kernel) rfl) (uW_of (by decide +kernel) rfl) (uW_of (by decide +kernel) rfl)
theorem gv_X9_46_n : okN yX9_checkRange 3 := by decide +kernel
set_option maxHeartbeats 4000000 in
set_option maxRecDepth 100000 in
theorem k_wayAt (l : Launch) (z : bZ) (v : bV) (sc : Nat → Int32) (ar : Nat → Nat → Int32) (hl0 : l.stackTraces = false) (K : Nat) (wa : Nat → Nat) (i : Int32) (hK : sc 0 = nI K) (hK4 : K ≤ 40) (hw : ∀ j, j < K → v.1 j = some (wa j)) : vx_Met l yX9_wayAt (Cond.code yX9_wayAt cX9_wayAt 2 (some (.object "BandMill$Way")) :: uW) { frames := 7, cells := 1, slots := 6, locals := 112 } (pC z v sc ar [.ref (zad z 0), .int (i)]) (qR z (fun r u => u = (v, sc, ar) ∧ ∃ j, j < K ∧ i = nI j ∧ r = wa j)) (xX z (fun E u => E = xIA ∧ u = (v, sc, ar) ∧ ¬ ∃ j, j < K ∧ i = nI j)) 1 6 (zA z) := by
  refine eX (by decide) (Nat.le_of_ble_eq_true rfl) ?_
  intro pP eE s mM below meth cC ls C hr hlk hT h hl
  have hx := C.1.1
  have hb := C.1.2.1
  have hl : lv_has ls 2 [(0, .ref (zad z 0)), (1, .int (i))] := hl
  refine lv_iload_n hx hb dX9_wayAt_0 rfl (lv_at hl 1 rfl) ?_
  refine lv_iconst (v := nI (0)) hx hb dX9_wayAt_1 (by decide) ?_
  refine lv_aload_n hx hb dX9_wayAt_2 rfl (lv_at hl 0 rfl) ?_
  refine rg_X9_15 C h dX9_wayAt_3 ?_
  refine tI (y := nI (K)) hK ?_
  refine lv_iconst (v := nI (1)) hx hb dX9_wayAt_6 (by decide) ?_
  refine lv_isub hx hb dX9_wayAt_7 ?_
  refine tI (y := nI (K) - 1) rfl ?_
  refine xbV h (xrS (As := [.int (i), .int (nI (0)), .int (nI (K) - 1)]) (rest := []) C h (k_checkRange l z v sc ar hl0 i (nI 0) (nI (K) - 1)) gv_X9_46 gv_X9_46_n ⟨rfl, rfl⟩ rfl hl.1 rfl (Nat.le_of_ble_eq_true rfl) dX9_wayAt_8 ⟨Nat.le_of_ble_eq_true rfl, Nat.le_of_ble_eq_true rfl⟩ ⟨Nat.le_of_ble_eq_true rfl, Nat.le_of_ble_eq_true rfl⟩) (fun E' ce' q' v' sc' ar' H' locs' hp' h' c1' c2' c3' => xOut hT hlk h' c1' c2' c3' (Nat.le_of_ble_eq_true rfl) (Nat.le_of_ble_eq_true rfl) (⟨hp'.1, hp'.2.1, wayOut hK4 hp'.2.2⟩)) (fun v_8 sc_8 ar_8 H locs p_8 h => ?_)
  have h : hH z v sc ar s H locs := uEq p_8.1 h
  obtain ⟨j, hj, rfl⟩ := wayIn hK4 p_8.2.1 p_8.2.2
  refine lv_aload_n hx hb dX9_wayAt_11 rfl (lv_at hl 0 rfl) ?_
  refine rg_X9_11 C h dX9_wayAt_12 ?_
  refine lv_iload_n hx hb dX9_wayAt_15 rfl (lv_at hl 1 rfl) ?_
  refine rLd (j := j) (a := wa j) C h (by omega) (hw j hj) dX9_wayAt_16 ?_
  exact vx_ret (rR C hr hlk h dX9_wayAt_17 (Nat.le_of_ble_eq_true rfl) (Nat.le_of_ble_eq_true rfl) (⟨rfl, j, hj, rfl, rfl⟩))
set_option maxHeartbeats 4000000 in
set_option maxRecDepth 100000 in
theorem k_checkRoomOnTape (l : Launch) (z : bZ) (v : bV) (sc : Nat → Int32) (ar : Nat → Nat → Int32) (hl0 : l.stackTraces = false) (n b : Nat) (hn : sc 3 = nI n) (hn8 : n ≤ 8000) (hb9 : b < 2 ^ 30) : vx_Met l yX9_checkRoomOnTape (Cond.code yX9_checkRoomOnTape cX9_checkRoomOnTape 2 none :: uW) { frames := 6, cells := 1, slots := 6, locals := 90 } (pC z v sc ar [.ref (zad z 0), .int (nI (b))]) (qV z (fun u => u = (v, sc, ar) ∧ n + b ≤ 8000)) (xX z (fun E u => E = xIS ∧ u = (v, sc, ar) ∧ 8000 < n + b)) 1 6 (zA z) := by
  refine eX (by decide) (Nat.le_of_ble_eq_true rfl) ?_
  intro pP eE s mM below meth cC ls C hr hlk hT h hl
  have hx := C.1.1
  have hb := C.1.2.1
  have hl : lv_has ls 2 [(0, .ref (zad z 0)), (1, .int (nI (b)))] := hl
  refine lv_iload_n hx hb dX9_checkRoomOnTape_0 rfl (lv_at hl 1 rfl) ?_
  refine lv_sipush (v := nI (8000)) hx hb dX9_checkRoomOnTape_1 (by decide) ?_
  refine lv_aload_n hx hb dX9_checkRoomOnTape_4 rfl (lv_at hl 0 rfl) ?_
  refine rg_X9_32 C h dX9_checkRoomOnTape_5 ?_
  refine rg_X9_99 C h dX9_checkRoomOnTape_8 ?_
  refine rg_X9_162 C h dX9_checkRoomOnTape_11 ?_
  refine tI (y := nI (n)) hn ?_
  refine lv_isub hx hb dX9_checkRoomOnTape_14 ?_
  refine tI (pk_sub (by omega)) ?_
  refine jN_le (tgt := 28) (a := b) (b := (8000) - (n)) C (by omega) (by omega) dX9_checkRoomOnTape_15 (by decide) (fun c_15 => ?_) (fun c_15 => ?_)
  · skip
    exact vx_ret (rV C hr hlk h dX9_checkRoomOnTape_28 (Nat.le_of_ble_eq_true rfl) (Nat.le_of_ble_eq_true rfl) (⟨rfl, by omega⟩))
  · skip
    exact xTS (is := 186) (text := "the tape would be too long") C hl0 hT hlk h hl.1 (List.mem_of_getElem? (i := 5) rfl) dX9_checkRoomOnTape_18 dX9_checkRoomOnTape_21 dX9_checkRoomOnTape_22 dX9_checkRoomOnTape_24 dX9_checkRoomOnTape_27 ⟨Nat.le_of_ble_eq_true rfl, Nat.le_of_ble_eq_true rfl⟩ ⟨Nat.le_of_ble_eq_true rfl, Nat.le_of_ble_eq_true rfl⟩ (Nat.le_of_ble_eq_true rfl) (Nat.le_of_ble_eq_true rfl) (Nat.le_of_ble_eq_true rfl) (⟨rfl, rfl, by omega⟩)
set_option maxHeartbeats 4000000 in
set_option maxRecDepth 100000 in
theorem k_number (l : Launch) (z : bZ) (v : bV) (sc : Nat → Int32) (ar : Nat → Nat → Int32) (hl0 : l.stackTraces = false) (N : Nat) (x : Int32) (hN : sc 1 = nI N) (hN4 : N ≤ 400) : vx_Met l yX9_number (Cond.code yX9_number cX9_number 2 (some .int) :: uW) { frames := 6, cells := 1, slots := 6, locals := 90 } (pC z v sc ar [.ref (zad z 0), .int (x)]) (qI z (fun r u => N < 400 ∧ r = nI (N + 1) ∧ u = (v, va_up sc 1 (nI (N + 1)), va_up ar 12 (upd (ar 12) N x)))) (xX z (fun E u => E = xIS ∧ u = (v, sc, ar) ∧ N = 400)) 1 6 (zA z) := by
  refine eX (by decide) (Nat.le_of_ble_eq_true rfl) ?_
  intro pP eE s mM below meth cC ls C hr hlk hT h hl
  have hx := C.1.1
  have hb := C.1.2.1
  have hl : lv_has ls 2 [(0, .ref (zad z 0)), (1, .int (x))] := hl
  refine lv_aload_n hx hb dX9_number_0 rfl (lv_at hl 0 rfl) ?_
  refine rg_X9_23 C h dX9_number_1 ?_
  refine tI (y := nI (N)) hN ?_
  refine lv_sipush (v := nI (400)) hx hb dX9_number_4 (by decide) ?_
  refine jN_lt (tgt := 20) (a := N) (b := 400) C (by omega) (by omega) dX9_number_7 (by decide) (fun c_7 => ?_) (fun c_7 => ?_)
  · skip
    refine lv_aload_n hx hb dX9_number_20 rfl (lv_at hl 0 rfl) ?_
    refine rg_X9_19 C h dX9_number_21 ?_
    refine lv_aload_n hx hb dX9_number_24 rfl (lv_at hl 0 rfl) ?_
    refine rg_X9_23 C h dX9_number_25 ?_
    refine tI (y := nI (N)) hN ?_
    refine lv_iload_n hx hb dX9_number_28 rfl (lv_at hl 1 rfl) ?_
    refine stA 12 rfl (j := N) (x := x) (show N < 400 by omega) (by decide) C h dX9_number_29 (fun H locs h => ?_)
    refine lv_aload_n hx hb dX9_number_30 rfl (lv_at hl 0 rfl) ?_
    refine lv_dup hx hb dX9_number_31 rfl ?_
    refine rg_X9_23 C h dX9_number_32 ?_
    refine tI (y := nI (N)) hN ?_
    refine lv_iconst (v := nI (1)) hx hb dX9_number_35 (by decide) ?_
    refine lv_iadd hx hb dX9_number_36 ?_
    refine tI (nI_add _ _) ?_
    refine rp_X9_23 C h dX9_number_37 (fun H locs h => ?_)
    refine lv_aload_n hx hb dX9_number_40 rfl (lv_at hl 0 rfl) ?_
    refine rg_X9_23 C h dX9_number_41 ?_
    refine tI (y := nI ((N) + (1))) rfl ?_
    exact vx_ret (rI C hr hlk h dX9_number_44 (Nat.le_of_ble_eq_true rfl) (Nat.le_of_ble_eq_true rfl) (⟨c_7, rfl, rfl⟩))
  · skip
    exact xTS (is := 88) (text := "the row is full") C hl0 hT hlk h hl.1 (List.mem_of_getElem? (i := 6) rfl) dX9_number_10 dX9_number_13 dX9_number_14 dX9_number_16 dX9_number_19 ⟨Nat.le_of_ble_eq_true rfl, Nat.le_of_ble_eq_true rfl⟩ ⟨Nat.le_of_ble_eq_true rfl, Nat.le_of_ble_eq_true rfl⟩ (Nat.le_of_ble_eq_true rfl) (Nat.le_of_ble_eq_true rfl) (Nat.le_of_ble_eq_true rfl) (⟨rfl, rfl, by omega⟩)
set_option maxHeartbeats 4000000 in
set_option maxRecDepth 100000 in
theorem k_clear (l : Launch) (z : bZ) (v : bV) (sc : Nat → Int32) (ar : Nat → Nat → Int32) (N : Nat) (hN : sc 1 = nI N) : Met l yX9_clear (Cond.code yX9_clear cX9_clear 2 (some .int) :: uW) { frames := 0, cells := 0, slots := 0, locals := 0 } (pC z v sc ar [.ref (zad z 0)]) (qI z (fun r u => r = nI N ∧ u = (v, va_up sc 1 (nI 0), ar))) 0 0 (zA z) := by
  refine eM (by decide) (Nat.le_of_ble_eq_true rfl) ?_
  intro pP eE s mM below meth cC ls C hr hlk h hl
  have hx := C.1.1
  have hb := C.1.2.1
  have hl : lv_has ls 2 [(0, .ref (zad z 0))] := hl
  refine lv_aload_n hx hb dX9_clear_0 rfl (lv_at hl 0 rfl) ?_
  refine rg_X9_23 C h dX9_clear_1 ?_
  refine tI (y := nI (N)) hN ?_
  refine lv_istore_n (lv' := [(1, .int (nI (N))), (0, .ref (zad z 0))]) hx hb dX9_clear_4 rfl hl (by decide) rfl (fun ls hl => ?_)
  refine lv_aload_n hx hb dX9_clear_5 rfl (lv_at hl 1 rfl) ?_
  refine lv_iconst (v := nI (0)) hx hb dX9_clear_6 (by decide) ?_
  refine rp_X9_23 C h dX9_clear_7 (fun H locs h => ?_)
  refine lv_iload_n hx hb dX9_clear_10 rfl (lv_at hl 0 rfl) ?_
  exact rI C hr hlk h dX9_clear_11 (Nat.le_of_ble_eq_true rfl) (Nat.le_of_ble_eq_true rfl) (⟨rfl, rfl⟩)
set_option maxHeartbeats 4000000 in
set_option maxRecDepth 100000 in
theorem k_row (l : Launch) (z : bZ) (v : bV) (sc : Nat → Int32) (ar : Nat → Nat → Int32) (N : Nat) (i : Int32) (hN : sc 1 = nI N) (hN4 : N ≤ 400) : Met l yX9_row (Cond.code yX9_row cX9_row 2 (some .int) :: uW) { frames := 0, cells := 0, slots := 0, locals := 0 } (pC z v sc ar [.ref (zad z 0), .int (i)]) (qI z (fun r u => u = (v, sc, ar) ∧ (∀ j, j < N → i = nI j → r = ar 12 j) ∧ ((¬ ∃ j, j < N ∧ i = nI j) → r = 0))) 0 0 (zA z) := by
  refine eM (by decide) (Nat.le_of_ble_eq_true rfl) ?_
  intro pP eE s mM below meth cC ls C hr hlk h hl
  have hx := C.1.1
  have hb := C.1.2.1
  have hl : lv_has ls 2 [(0, .ref (zad z 0)), (1, .int (i))] := hl
  refine lv_iload_n hx hb dX9_row_0 rfl (lv_at hl 1 rfl) ?_
  refine lv_if_lt (tgt := 21) hx hb dX9_row_1 (by decide) (fun c_1 => ?_) (fun c_1 => ?_)
  · skip
    refine lv_iconst (v := nI (0)) hx hb dX9_row_21 (by decide) ?_
    exact rI C hr hlk h dX9_row_22 (Nat.le_of_ble_eq_true rfl) (Nat.le_of_ble_eq_true rfl) (⟨rfl, fun j hj e => absurd c_1 (by rw [e]; exact nI_pos (by omega)), fun _ => rfl⟩)
  · skip
    obtain ⟨j, hj, rfl⟩ := nI_of c_1
    refine lv_iload_n hx hb dX9_row_4 rfl (lv_at hl 1 rfl) ?_
    refine lv_aload_n hx hb dX9_row_5 rfl (lv_at hl 0 rfl) ?_
    refine rg_X9_23 C h dX9_row_6 ?_
    refine tI (y := nI (N)) hN ?_
    refine jN_ge (tgt := 21) (a := j) (b := N) C (by omega) (by omega) dX9_row_9 (by decide) (fun c_9 => ?_) (fun c_9 => ?_)
    · skip
      refine lv_iconst (v := nI (0)) hx hb dX9_row_21 (by decide) ?_
      exact rI C hr hlk h dX9_row_22 (Nat.le_of_ble_eq_true rfl) (Nat.le_of_ble_eq_true rfl) (⟨rfl, fun q hq e => absurd ((nI_eq hj (by omega)).mp e) (by omega), fun _ => rfl⟩)
    · skip
      refine lv_aload_n hx hb dX9_row_12 rfl (lv_at hl 0 rfl) ?_
      refine rg_X9_19 C h dX9_row_13 ?_
      refine lv_iload_n hx hb dX9_row_16 rfl (lv_at hl 1 rfl) ?_
      refine ldA 12 rfl (j := j) (show j < 400 by omega) (by decide) C h dX9_row_17 ?_
      refine tI (y := (ar 12) (j)) rfl ?_
      refine lv_goto (tgt := 22) hx hb dX9_row_18 (by decide) ?_
      exact rI C hr hlk h dX9_row_22 (Nat.le_of_ble_eq_true rfl) (Nat.le_of_ble_eq_true rfl) (⟨rfl, fun q hq e => by rw [(nI_eq hj (by omega)).mp e], fun q => absurd ⟨j, c_9, rfl⟩ q⟩)
set_option maxHeartbeats 4000000 in
set_option maxRecDepth 100000 in
theorem k_place (l : Launch) (z : bZ) (v : bV) (sc : Nat → Int32) (ar : Nat → Nat → Int32)   : Met l yX9_place (Cond.code yX9_place cX9_place 1 (some .int) :: uW) { frames := 0, cells := 0, slots := 0, locals := 0 } (pC z v sc ar [.ref (zad z 0)]) (qI z (fun r u => r = sc 2 ∧ u = (v, sc, ar))) 0 0 (zA z) := by
  refine eM (by decide) (Nat.le_of_ble_eq_true rfl) ?_
  intro pP eE s mM below meth cC ls C hr hlk h hl
  have hx := C.1.1
  have hb := C.1.2.1
  have hl : lv_has ls 1 [(0, .ref (zad z 0))] := hl
  refine lv_aload_n hx hb dX9_place_0 rfl (lv_at hl 0 rfl) ?_
  refine rg_X9_43 C h dX9_place_1 ?_
  refine tI (y := sc 2) rfl ?_
  exact rI C hr hlk h dX9_place_4 (Nat.le_of_ble_eq_true rfl) (Nat.le_of_ble_eq_true rfl) (⟨rfl, rfl⟩)
theorem swN {x : Int32} (n : Nat) (hn : n < 2 ^ 31) : (∃ j, j ≤ n ∧ x = nI j) ∨ (x.toInt < 0 ∨ (n : Int) < x.toInt) := by
  by_cases h : x < 0
  · exact Or.inr (Or.inl (Int32.lt_iff_toInt_lt.mp h))
  · obtain ⟨j, hj, rfl⟩ := nI_of h
    by_cases h2 : j ≤ n
    · exact Or.inl ⟨j, h2, rfl⟩
    · exact Or.inr (Or.inr (by rw [nI_toInt hj]; omega))
theorem sw2 (x : Int32) : x = nI 0 ∨ x = nI 1 ∨ x = nI 2 ∨ (x.toInt < 0 ∨ (2 : Int) < x.toInt) := by
  rcases swN (x := x) 2 (by decide) with ⟨j, hj, rfl⟩ | h
  · have : j = 0 ∨ j = 1 ∨ j = 2 := by omega
    rcases this with rfl | rfl | rfl
    · exact Or.inl rfl
    · exact Or.inr (Or.inl rfl)
    · exact Or.inr (Or.inr (Or.inl rfl))
  · exact Or.inr (Or.inr (Or.inr h))
theorem sw3 (x : Int32) : x = nI 0 ∨ x = nI 1 ∨ x = nI 2 ∨ x = nI 3 ∨ (x.toInt < 0 ∨ (3 : Int) < x.toInt) := by
  rcases swN (x := x) 3 (by decide) with ⟨j, hj, rfl⟩ | h
  · have : j = 0 ∨ j = 1 ∨ j = 2 ∨ j = 3 := by omega
    rcases this with rfl | rfl | rfl | rfl
    · exact Or.inl rfl
    · exact Or.inr (Or.inl rfl)
    · exact Or.inr (Or.inr (Or.inl rfl))
    · exact Or.inr (Or.inr (Or.inr (Or.inl rfl)))
  · exact Or.inr (Or.inr (Or.inr (Or.inr h)))
theorem swo {x : Int32} {n : Nat} (hn : n < 2 ^ 31) (h : x.toInt < 0 ∨ (n : Int) < x.toInt) : ¬ ∃ j, j ≤ n ∧ x = nI j := by
  rintro ⟨j, hj, rfl⟩
  rw [nI_toInt (by omega)] at h
  omega
set_option maxHeartbeats 4000000 in
set_option maxRecDepth 100000 in
theorem k_chosen (l : Launch) (z : bZ) (v : bV) (sc : Nat → Int32) (ar : Nat → Nat → Int32) (hl0 : l.stackTraces = false) (x : Int32)  : vx_Met l yX9_chosen (Cond.code yX9_chosen cX9_chosen 2 (some .int) :: uW) { frames := 6, cells := 1, slots := 6, locals := 90 } (pC z v sc ar [.ref (zad z 0), .int (x)]) (qI z (fun r u => u = (v, sc, ar) ∧ ((x = nI 0 ∧ r = sc 12) ∨ (x = nI 1 ∧ r = sc 13) ∨ (x = nI 2 ∧ r = sc 14)))) (xX z (fun E u => E = xIA ∧ u = (v, sc, ar) ∧ ¬ ∃ j, j ≤ 2 ∧ x = nI j)) 1 6 (zA z) := by
  refine eX (by decide) (Nat.le_of_ble_eq_true rfl) ?_
  intro pP eE s mM below meth cC ls C hr hlk hT h hl
  have hx := C.1.1
  have hb := C.1.2.1
  have hl : lv_has ls 2 [(0, .ref (zad z 0)), (1, .int (x))] := hl
  refine lv_iload_n hx hb dX9_chosen_0 rfl (lv_at hl 1 rfl) ?_
  rcases sw2 x with rfl | rfl | rfl | hx0
  · skip
    have hl : lv_has ls 2 [(0, .ref (zad z 0)), (1, .int (nI (0)))] := hl
    refine lv_tableIn (tgt := 28) (off := 27) hx hb dX9_chosen_1 (by decide) (by decide) (by decide) (by decide) ?_
    refine lv_aload_n hx hb dX9_chosen_28 rfl (lv_at hl 0 rfl) ?_
    refine rg_X9_39 C h dX9_chosen_29 ?_
    refine rg_X9_142 C h dX9_chosen_32 ?_
    refine tI (y := sc 12) rfl ?_
    exact vx_ret (rI C hr hlk h dX9_chosen_35 (Nat.le_of_ble_eq_true rfl) (Nat.le_of_ble_eq_true rfl) (⟨rfl, Or.inl ⟨rfl, rfl⟩⟩))
  · skip
    have hl : lv_has ls 2 [(0, .ref (zad z 0)), (1, .int (nI (1)))] := hl
    refine lv_tableIn (tgt := 36) (off := 35) hx hb dX9_chosen_1 (by decide) (by decide) (by decide) (by decide) ?_
    refine lv_aload_n hx hb dX9_chosen_36 rfl (lv_at hl 0 rfl) ?_
    refine rg_X9_39 C h dX9_chosen_37 ?_
    refine rg_X9_145 C h dX9_chosen_40 ?_
    refine tI (y := sc 13) rfl ?_
    exact vx_ret (rI C hr hlk h dX9_chosen_43 (Nat.le_of_ble_eq_true rfl) (Nat.le_of_ble_eq_true rfl) (⟨rfl, Or.inr (Or.inl ⟨rfl, rfl⟩)⟩))
  · skip
    have hl : lv_has ls 2 [(0, .ref (zad z 0)), (1, .int (nI (2)))] := hl
    refine lv_tableIn (tgt := 44) (off := 43) hx hb dX9_chosen_1 (by decide) (by decide) (by decide) (by decide) ?_
    refine lv_aload_n hx hb dX9_chosen_44 rfl (lv_at hl 0 rfl) ?_
    refine rg_X9_39 C h dX9_chosen_45 ?_
    refine rg_X9_148 C h dX9_chosen_48 ?_
    refine tI (y := sc 14) rfl ?_
    exact vx_ret (rI C hr hlk h dX9_chosen_51 (Nat.le_of_ble_eq_true rfl) (Nat.le_of_ble_eq_true rfl) (⟨rfl, Or.inr (Or.inr (⟨rfl, rfl⟩))⟩))
  · skip
    refine lv_tableOut (tgt := 52) hx hb dX9_chosen_1 hx0 (by decide) ?_
    exact xTA (is := 153) (text := "chosen tells 0 .. 2") C hl0 hT hlk h hl.1 (List.mem_of_getElem? (i := 0) rfl) dX9_chosen_52 dX9_chosen_55 dX9_chosen_56 dX9_chosen_58 dX9_chosen_61 ⟨Nat.le_of_ble_eq_true rfl, Nat.le_of_ble_eq_true rfl⟩ ⟨Nat.le_of_ble_eq_true rfl, Nat.le_of_ble_eq_true rfl⟩ (Nat.le_of_ble_eq_true rfl) (Nat.le_of_ble_eq_true rfl) (Nat.le_of_ble_eq_true rfl) (⟨rfl, rfl, swo (by decide) hx0⟩)
set_option maxHeartbeats 4000000 in
set_option maxRecDepth 100000 in
theorem k_about (l : Launch) (z : bZ) (v : bV) (sc : Nat → Int32) (ar : Nat → Nat → Int32) (hl0 : l.stackTraces = false) (x : Int32)  : vx_Met l yX9_about (Cond.code yX9_about cX9_about 2 (some .int) :: uW) { frames := 6, cells := 1, slots := 6, locals := 90 } (pC z v sc ar [.ref (zad z 0), .int (x)]) (qI z (fun r u => u = (v, sc, ar) ∧ ((x = nI 0 ∧ r = sc 0) ∨ (x = nI 1 ∧ r = sc 1) ∨ (x = nI 2 ∧ r = sc 3) ∨ (x = nI 3 ∧ r = sc 4)))) (xX z (fun E u => E = xIA ∧ u = (v, sc, ar) ∧ ¬ ∃ j, j ≤ 3 ∧ x = nI j)) 1 6 (zA z) := by
  refine eX (by decide) (Nat.le_of_ble_eq_true rfl) ?_
  intro pP eE s mM below meth cC ls C hr hlk hT h hl
  have hx := C.1.1
  have hb := C.1.2.1
  have hl : lv_has ls 2 [(0, .ref (zad z 0)), (1, .int (x))] := hl
  refine lv_iload_n hx hb dX9_about_0 rfl (lv_at hl 1 rfl) ?_
  rcases sw3 x with rfl | rfl | rfl | rfl | hx0
  · skip
    have hl : lv_has ls 2 [(0, .ref (zad z 0)), (1, .int (nI (0)))] := hl
    refine lv_tableIn (tgt := 32) (off := 31) hx hb dX9_about_1 (by decide) (by decide) (by decide) (by decide) ?_
    refine lv_aload_n hx hb dX9_about_32 rfl (lv_at hl 0 rfl) ?_
    refine rg_X9_15 C h dX9_about_33 ?_
    refine tI (y := sc 0) rfl ?_
    exact vx_ret (rI C hr hlk h dX9_about_36 (Nat.le_of_ble_eq_true rfl) (Nat.le_of_ble_eq_true rfl) (⟨rfl, Or.inl ⟨rfl, rfl⟩⟩))
  · skip
    have hl : lv_has ls 2 [(0, .ref (zad z 0)), (1, .int (nI (1)))] := hl
    refine lv_tableIn (tgt := 37) (off := 36) hx hb dX9_about_1 (by decide) (by decide) (by decide) (by decide) ?_
    refine lv_aload_n hx hb dX9_about_37 rfl (lv_at hl 0 rfl) ?_
    refine rg_X9_23 C h dX9_about_38 ?_
    refine tI (y := sc 1) rfl ?_
    exact vx_ret (rI C hr hlk h dX9_about_41 (Nat.le_of_ble_eq_true rfl) (Nat.le_of_ble_eq_true rfl) (⟨rfl, Or.inr (Or.inl ⟨rfl, rfl⟩)⟩))
  · skip
    have hl : lv_has ls 2 [(0, .ref (zad z 0)), (1, .int (nI (2)))] := hl
    refine lv_tableIn (tgt := 42) (off := 41) hx hb dX9_about_1 (by decide) (by decide) (by decide) (by decide) ?_
    refine lv_aload_n hx hb dX9_about_42 rfl (lv_at hl 0 rfl) ?_
    refine rg_X9_32 C h dX9_about_43 ?_
    refine rg_X9_99 C h dX9_about_46 ?_
    refine rg_X9_162 C h dX9_about_49 ?_
    refine tI (y := sc 3) rfl ?_
    exact vx_ret (rI C hr hlk h dX9_about_52 (Nat.le_of_ble_eq_true rfl) (Nat.le_of_ble_eq_true rfl) (⟨rfl, Or.inr (Or.inr (Or.inl ⟨rfl, rfl⟩))⟩))
  · skip
    have hl : lv_has ls 2 [(0, .ref (zad z 0)), (1, .int (nI (3)))] := hl
    refine lv_tableIn (tgt := 53) (off := 52) hx hb dX9_about_1 (by decide) (by decide) (by decide) (by decide) ?_
    refine lv_aload_n hx hb dX9_about_53 rfl (lv_at hl 0 rfl) ?_
    refine rg_X9_32 C h dX9_about_54 ?_
    refine rg_X9_99 C h dX9_about_57 ?_
    refine rg_X9_165 C h dX9_about_60 ?_
    refine tI (y := sc 4) rfl ?_
    exact vx_ret (rI C hr hlk h dX9_about_63 (Nat.le_of_ble_eq_true rfl) (Nat.le_of_ble_eq_true rfl) (⟨rfl, Or.inr (Or.inr (Or.inr (⟨rfl, rfl⟩)))⟩))
  · skip
    refine lv_tableOut (tgt := 64) hx hb dX9_about_1 hx0 (by decide) ?_
    exact xTA (is := 178) (text := "about tells 0 .. 3") C hl0 hT hlk h hl.1 (List.mem_of_getElem? (i := 1) rfl) dX9_about_64 dX9_about_67 dX9_about_68 dX9_about_70 dX9_about_73 ⟨Nat.le_of_ble_eq_true rfl, Nat.le_of_ble_eq_true rfl⟩ ⟨Nat.le_of_ble_eq_true rfl, Nat.le_of_ble_eq_true rfl⟩ (Nat.le_of_ble_eq_true rfl) (Nat.le_of_ble_eq_true rfl) (Nat.le_of_ble_eq_true rfl) (⟨rfl, rfl, swo (by decide) hx0⟩)
theorem um_X9_168 : Cond.methodLink RX9 168 Lib.Math.min.name ∈ uW := uW_of (by decide +kernel) rfl
set_option maxHeartbeats 4000000 in
set_option maxRecDepth 100000 in
theorem k_end (l : Launch) (z : bZ) (v : bV) (sc : Nat → Int32) (ar : Nat → Nat → Int32) (hl0 : l.stackTraces = false) (n rf : Nat) (x : Int32) (hn : sc 3 = nI n) (hn8 : n ≤ 8000) (hf : sc 4 = nI rf) (hrf : rf ≤ n) : vx_Met l yX9_end (Cond.code yX9_end cX9_end 3 none :: uW) { frames := 7, cells := 1, slots := 6, locals := 112 } (pC z v sc ar [.ref (zad z 0), .int (x)]) (qV z (fun u => ∃ j, j ≤ n ∧ x = nI j ∧ u = (v, va_up (va_up sc 3 (nI j)) 4 (nI (min rf j)), ar))) (xX z (fun E u => E = xIA ∧ u = (v, sc, ar) ∧ ¬ ∃ j, j ≤ n ∧ x = nI j)) 1 6 (zA z) := by
  refine eX (by decide) (Nat.le_of_ble_eq_true rfl) ?_
  intro pP eE s mM below meth cC ls C hr hlk hT h hl
  have hx := C.1.1
  have hb := C.1.2.1
  have hl : lv_has ls 3 [(0, .ref (zad z 0)), (1, .int (x))] := hl
  refine lv_aload_n hx hb dX9_end_0 rfl (lv_at hl 0 rfl) ?_
  refine rg_X9_32 C h dX9_end_1 ?_
  refine rg_X9_99 C h dX9_end_4 ?_
  refine lv_astore_n (lv' := [(2, .ref (zad z 2)), (0, .ref (zad z 0)), (1, .int (x))]) hx hb dX9_end_7 rfl hl (by decide) rfl (fun ls hl => ?_)
  refine lv_iload_n hx hb dX9_end_8 rfl (lv_at hl 2 rfl) ?_
  refine lv_iconst (v := nI (0)) hx hb dX9_end_9 (by decide) ?_
  refine lv_aload_n hx hb dX9_end_10 rfl (lv_at hl 0 rfl) ?_
  refine rg_X9_162 C h dX9_end_11 ?_
  refine tI (y := nI (n)) hn ?_
  refine xbV h (xrS (As := [.int (x), .int (nI (0)), .int (nI (n))]) (rest := []) C h (k_checkRange l z v sc ar hl0 x (nI 0) (nI (n))) gv_X9_46 gv_X9_46_n ⟨rfl, rfl⟩ rfl hl.1 rfl (Nat.le_of_ble_eq_true rfl) dX9_end_14 ⟨Nat.le_of_ble_eq_true rfl, Nat.le_of_ble_eq_true rfl⟩ ⟨Nat.le_of_ble_eq_true rfl, Nat.le_of_ble_eq_true rfl⟩) (fun E' ce' q' v' sc' ar' H' locs' hp' h' c1' c2' c3' => xOut hT hlk h' c1' c2' c3' (Nat.le_of_ble_eq_true rfl) (Nat.le_of_ble_eq_true rfl) (⟨hp'.1, hp'.2.1, numOut (by omega) hp'.2.2⟩)) (fun v_14 sc_14 ar_14 H locs p_14 h => ?_)
  have h : hH z v sc ar s H locs := uEq p_14.1 h
  obtain ⟨j, hj, rfl⟩ := numIn (by omega) p_14.2.1 p_14.2.2
  refine lv_aload_n hx hb dX9_end_17 rfl (lv_at hl 0 rfl) ?_
  refine lv_iload_n hx hb dX9_end_18 rfl (lv_at hl 2 rfl) ?_
  refine rp_X9_162 C h dX9_end_19 (fun H locs h => ?_)
  refine lv_aload_n hx hb dX9_end_22 rfl (lv_at hl 0 rfl) ?_
  refine lv_aload_n hx hb dX9_end_23 rfl (lv_at hl 0 rfl) ?_
  refine rg_X9_165 C h dX9_end_24 ?_
  refine tI (y := nI (rf)) hf ?_
  refine lv_iload_n hx hb dX9_end_27 rfl (lv_at hl 2 rfl) ?_
  refine mmin C hl.1 um_X9_168 (Nat.le_of_ble_eq_true rfl) (Nat.le_of_ble_eq_true rfl) (Nat.le_of_ble_eq_true rfl) (Nat.le_of_ble_eq_true rfl) dX9_end_28 ?_
  refine tI (nN_min (by omega) (by omega)) ?_
  refine rp_X9_165 C h dX9_end_31 (fun H locs h => ?_)
  exact vx_ret (rV C hr hlk h dX9_end_34 (Nat.le_of_ble_eq_true rfl) (Nat.le_of_ble_eq_true rfl) (⟨j, hj, rfl, rfl⟩))
set_option maxHeartbeats 4000000 in
set_option maxRecDepth 100000 in
theorem k_seek (l : Launch) (z : bZ) (v : bV) (sc : Nat → Int32) (ar : Nat → Nat → Int32) (hl0 : l.stackTraces = false) (n rf : Nat) (x : Int32) (hn : sc 3 = nI n) (hn8 : n ≤ 8000) (hf : sc 4 = nI rf) (hrf : rf ≤ n) : vx_Met l yX9_seek (Cond.code yX9_seek cX9_seek 4 (some .int) :: uW) { frames := 7, cells := 1, slots := 6, locals := 112 } (pC z v sc ar [.ref (zad z 0), .int (x)]) (qI z (fun r u => ∃ j, j ≤ n ∧ x = nI j ∧ r = nI rf ∧ u = (v, va_up sc 4 (nI j), ar))) (xX z (fun E u => E = xIA ∧ u = (v, sc, ar) ∧ ¬ ∃ j, j ≤ n ∧ x = nI j)) 1 6 (zA z) := by
  refine eX (by decide) (Nat.le_of_ble_eq_true rfl) ?_
  intro pP eE s mM below meth cC ls C hr hlk hT h hl
  have hx := C.1.1
  have hb := C.1.2.1
  have hl : lv_has ls 4 [(0, .ref (zad z 0)), (1, .int (x))] := hl
  refine lv_aload_n hx hb dX9_seek_0 rfl (lv_at hl 0 rfl) ?_
  refine rg_X9_32 C h dX9_seek_1 ?_
  refine rg_X9_99 C h dX9_seek_4 ?_
  refine lv_astore_n (lv' := [(2, .ref (zad z 2)), (0, .ref (zad z 0)), (1, .int (x))]) hx hb dX9_seek_7 rfl hl (by decide) rfl (fun ls hl => ?_)
  refine lv_iload_n hx hb dX9_seek_8 rfl (lv_at hl 2 rfl) ?_
  refine lv_iconst (v := nI (0)) hx hb dX9_seek_9 (by decide) ?_
  refine lv_aload_n hx hb dX9_seek_10 rfl (lv_at hl 0 rfl) ?_
  refine rg_X9_162 C h dX9_seek_11 ?_
  refine tI (y := nI (n)) hn ?_
  refine xbV h (xrS (As := [.int (x), .int (nI (0)), .int (nI (n))]) (rest := []) C h (k_checkRange l z v sc ar hl0 x (nI 0) (nI (n))) gv_X9_46 gv_X9_46_n ⟨rfl, rfl⟩ rfl hl.1 rfl (Nat.le_of_ble_eq_true rfl) dX9_seek_14 ⟨Nat.le_of_ble_eq_true rfl, Nat.le_of_ble_eq_true rfl⟩ ⟨Nat.le_of_ble_eq_true rfl, Nat.le_of_ble_eq_true rfl⟩) (fun E' ce' q' v' sc' ar' H' locs' hp' h' c1' c2' c3' => xOut hT hlk h' c1' c2' c3' (Nat.le_of_ble_eq_true rfl) (Nat.le_of_ble_eq_true rfl) (⟨hp'.1, hp'.2.1, numOut (by omega) hp'.2.2⟩)) (fun v_14 sc_14 ar_14 H locs p_14 h => ?_)
  have h : hH z v sc ar s H locs := uEq p_14.1 h
  obtain ⟨j, hj, rfl⟩ := numIn (by omega) p_14.2.1 p_14.2.2
  refine lv_aload_n hx hb dX9_seek_17 rfl (lv_at hl 0 rfl) ?_
  refine rg_X9_165 C h dX9_seek_18 ?_
  refine tI (y := nI (rf)) hf ?_
  refine lv_istore_n (lv' := [(3, .int (nI (rf))), (2, .ref (zad z 2)), (0, .ref (zad z 0)), (1, .int (nI (j)))]) hx hb dX9_seek_21 rfl hl (by decide) rfl (fun ls hl => ?_)
  refine lv_aload_n hx hb dX9_seek_22 rfl (lv_at hl 1 rfl) ?_
  refine lv_iload_n hx hb dX9_seek_23 rfl (lv_at hl 3 rfl) ?_
  refine rp_X9_165 C h dX9_seek_24 (fun H locs h => ?_)
  refine lv_iload_n hx hb dX9_seek_27 rfl (lv_at hl 0 rfl) ?_
  exact vx_ret (rI C hr hlk h dX9_seek_28 (Nat.le_of_ble_eq_true rfl) (Nat.le_of_ble_eq_true rfl) (⟨j, hj, rfl, rfl, rfl⟩))
theorem gv_X9_171 : GoodIn uW (wsV RX9 171 RX7 yX7_byteAt (Cond.code yX7_byteAt cX7_byteAt 2 (some .int) :: uW)) := gI_V (uW_of (by decide +kernel) rfl) (uW_of (by decide +kernel) rfl) (uW_of (by decide +kernel) rfl) (uW_of (by decide +kernel) rfl) (uW_of (by decide +kernel) rfl)
theorem gv_X9_171_n : okN yX7_byteAt 1 := by decide +kernel
set_option maxHeartbeats 4000000 in
set_option maxRecDepth 100000 in
theorem k_tape (l : Launch) (z : bZ) (v : bV) (sc : Nat → Int32) (ar : Nat → Nat → Int32) (n : Nat) (x : Int32) (hn : sc 3 = nI n) (hn8 : n ≤ 8000) : Met l yX9_tape (Cond.code yX9_tape cX9_tape 2 (some .int) :: uW) { frames := 1, cells := 0, slots := 0, locals := 21 } (pC z v sc ar [.ref (zad z 0), .int (x)]) (qI z (fun r u => r = tpAt (ar 11) n x ∧ u = (v, sc, ar))) 0 0 (zA z) := by
  refine eM (by decide) (Nat.le_of_ble_eq_true rfl) ?_
  intro pP eE s mM below meth cC ls C hr hlk h hl
  have hx := C.1.1
  have hb := C.1.2.1
  have hl : lv_has ls 2 [(0, .ref (zad z 0)), (1, .int (x))] := hl
  refine lv_aload_n hx hb dX9_tape_0 rfl (lv_at hl 0 rfl) ?_
  refine rg_X9_32 C h dX9_tape_1 ?_
  refine rg_X9_99 C h dX9_tape_4 ?_
  refine lv_iload_n hx hb dX9_tape_7 rfl (lv_at hl 1 rfl) ?_
  refine backI h (runV (As := [.int (x)]) (rest := []) C h (k_byteAt l z v sc ar n x hn hn8) gv_X9_171 gv_X9_171_n ⟨rfl, rfl⟩ (r_Tape C h) rfl hl.1 rfl (Nat.le_of_ble_eq_true rfl) dX9_tape_8 ⟨Nat.le_of_ble_eq_true rfl, Nat.le_of_ble_eq_true rfl⟩ ⟨Nat.le_of_ble_eq_true rfl, Nat.le_of_ble_eq_true rfl⟩) (fun r_8 v_8 sc_8 ar_8 H locs p_8 h => ?_)
  have h : hH z v sc ar s H locs := uEq p_8.2 h
  refine tI (y := tpAt (ar 11) n x) p_8.1 ?_
  exact rI C hr hlk h dX9_tape_11 (Nat.le_of_ble_eq_true rfl) (Nat.le_of_ble_eq_true rfl) (⟨rfl, rfl⟩)
set_option maxHeartbeats 4000000 in
set_option maxRecDepth 100000 in
theorem k_trait (l : Launch) (z : bZ) (v : bV) (sc : Nat → Int32) (ar : Nat → Nat → Int32) (a cb ch cs cd : Nat) (x : Int32) (hw : cdW v a cb ch cs cd) : Met l yX1_trait (Cond.code yX1_trait cX1_trait 2 (some .int) :: uW) { frames := 0, cells := 0, slots := 0, locals := 0 } (pC z v sc ar [.ref (a), .int (x)]) (qI z (fun r u => u = (v, sc, ar) ∧ ((x = nI 0 ∧ r = nI cb) ∨ (x = nI 1 ∧ r = nI ch) ∨ (x = nI 2 ∧ r = nI cs) ∨ (x = nI 3 ∧ r = nI cd) ∨ ((¬ ∃ j, j ≤ 3 ∧ x = nI j) ∧ r = -1)))) 0 0 (zA z) := by
  refine eM (by decide) (Nat.le_of_ble_eq_true rfl) ?_
  intro pP eE s mM below meth cC ls C hr hlk h hl
  have hx := C.1.1
  have hb := C.1.2.1
  have hl : lv_has ls 2 [(0, .ref (a)), (1, .int (x))] := hl
  refine lv_iload_n hx hb dX1_trait_0 rfl (lv_at hl 1 rfl) ?_
  rcases sw3 x with rfl | rfl | rfl | rfl | hx0
  · skip
    have hl : lv_has ls 2 [(0, .ref (a)), (1, .int (nI (0)))] := hl
    refine lv_tableIn (tgt := 32) (off := 31) hx hb dX1_trait_1 (by decide) (by decide) (by decide) (by decide) ?_
    refine lv_aload_n hx hb dX1_trait_32 rfl (lv_at hl 0 rfl) ?_
    refine rw_X1_9 C h hw dX1_trait_33 ?_
    exact rI C hr hlk h dX1_trait_36 (Nat.le_of_ble_eq_true rfl) (Nat.le_of_ble_eq_true rfl) (⟨rfl, Or.inl ⟨rfl, rfl⟩⟩)
  · skip
    have hl : lv_has ls 2 [(0, .ref (a)), (1, .int (nI (1)))] := hl
    refine lv_tableIn (tgt := 37) (off := 36) hx hb dX1_trait_1 (by decide) (by decide) (by decide) (by decide) ?_
    refine lv_aload_n hx hb dX1_trait_37 rfl (lv_at hl 0 rfl) ?_
    refine rw_X1_15 C h hw dX1_trait_38 ?_
    exact rI C hr hlk h dX1_trait_41 (Nat.le_of_ble_eq_true rfl) (Nat.le_of_ble_eq_true rfl) (⟨rfl, Or.inr (Or.inl ⟨rfl, rfl⟩)⟩)
  · skip
    have hl : lv_has ls 2 [(0, .ref (a)), (1, .int (nI (2)))] := hl
    refine lv_tableIn (tgt := 42) (off := 41) hx hb dX1_trait_1 (by decide) (by decide) (by decide) (by decide) ?_
    refine lv_aload_n hx hb dX1_trait_42 rfl (lv_at hl 0 rfl) ?_
    refine rw_X1_18 C h hw dX1_trait_43 ?_
    exact rI C hr hlk h dX1_trait_46 (Nat.le_of_ble_eq_true rfl) (Nat.le_of_ble_eq_true rfl) (⟨rfl, Or.inr (Or.inr (Or.inl ⟨rfl, rfl⟩))⟩)
  · skip
    have hl : lv_has ls 2 [(0, .ref (a)), (1, .int (nI (3)))] := hl
    refine lv_tableIn (tgt := 47) (off := 46) hx hb dX1_trait_1 (by decide) (by decide) (by decide) (by decide) ?_
    refine lv_aload_n hx hb dX1_trait_47 rfl (lv_at hl 0 rfl) ?_
    refine rw_X1_21 C h hw dX1_trait_48 ?_
    exact rI C hr hlk h dX1_trait_51 (Nat.le_of_ble_eq_true rfl) (Nat.le_of_ble_eq_true rfl) (⟨rfl, Or.inr (Or.inr (Or.inr (Or.inl ⟨rfl, rfl⟩)))⟩)
  · skip
    refine lv_tableOut (tgt := 52) hx hb dX1_trait_1 hx0 (by decide) ?_
    refine lv_iconst (v := (-1)) hx hb dX1_trait_52 (by decide) ?_
    exact rI C hr hlk h dX1_trait_53 (Nat.le_of_ble_eq_true rfl) (Nat.le_of_ble_eq_true rfl) (⟨rfl, Or.inr (Or.inr (Or.inr (Or.inr ⟨swo (by decide) hx0, rfl⟩)))⟩)
set_option maxHeartbeats 4000000 in
set_option maxRecDepth 100000 in
theorem k_traitN (l : Launch) (z : bZ) (v : bV) (sc : Nat → Int32) (ar : Nat → Nat → Int32) (a : Nat) (x : Int32)  : Met l yX8_trait (Cond.code yX8_trait cX8_trait 2 (some .int) :: uW) { frames := 0, cells := 0, slots := 0, locals := 0 } (pC z v sc ar [.ref (a), .int (x)]) (qI z (fun r u => u = (v, sc, ar) ∧ r = -1)) 0 0 (zA z) := by
  refine eM (by decide) (Nat.le_of_ble_eq_true rfl) ?_
  intro pP eE s mM below meth cC ls C hr hlk h hl
  have hx := C.1.1
  have hb := C.1.2.1
  have hl : lv_has ls 2 [(0, .ref (a)), (1, .int (x))] := hl
  refine lv_iconst (v := (-1)) hx hb dX8_trait_0 (by decide) ?_
  exact rI C hr hlk h dX8_trait_1 (Nat.le_of_ble_eq_true rfl) (Nat.le_of_ble_eq_true rfl) (⟨rfl, rfl⟩)
