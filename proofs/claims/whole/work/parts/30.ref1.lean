/-! The reference: ways and numbers. -/
def RW (wt : Nat → Nat → Nat) (dp : Nat → Nat) (K : Nat) (ar : Nat → Nat → Int32) : Prop := ∀ i, i < K → ar 28 i = nI (wt i 0) ∧ ar 29 i = nI (wt i 1) ∧ ar 30 i = nI (wt i 2) ∧ ar 31 i = nI (wt i 3) ∧ ar 32 i = nI (wt i 4) ∧ ar 33 i = nI (dp i) ∧ wOK wt dp i
def adA (ar : Nat → Nat → Int32) (K : Nat) (q a b c d : Int32) : Nat → Nat → Int32 := va_up (va_up (va_up (va_up (va_up ar 28 (upd (ar 28) K q)) 29 (upd (ar 29) K a)) 30 (upd (ar 30) K b)) 31 (upd (ar 31) K c)) 32 (upd (ar 32) K d)
theorem dpLe2 {wt : Nat → Nat → Nat} {dp : Nat → Nat} {i : Nat} (h : wOK wt dp i) : dp i ≤ 4 := by
  rcases h with q | q | q
  · omega
  · exact q.2.2.2.2.2.2
  · exact q.2.2.2.2.2.2.2.2
theorem m2L {x : Int64} {k : Nat} (h : -x = lN k) : (-2 : Int64) * x = lN (2 * k) := by
  rw [← lN_mul, ← h, Int64.mul_neg, ← Int64.neg_mul]
  rfl
theorem m4L {x : Int64} {k : Nat} (h : -x = lN k) : (-4 : Int64) * x = lN (4 * k) := by
  rw [← lN_mul, ← h, Int64.mul_neg, ← Int64.neg_mul]
  rfl
set_option maxHeartbeats 4000000 in
set_option maxRecDepth 100000 in
theorem r_thrown (l : Launch) (z : bZ) (v : bV) (sc : Nat → Int32) (ar : Nat → Nat → Int32)   : Met l yX10_thrown (Cond.code yX10_thrown cX10_thrown 1 (some .int) :: uW) { frames := 0, cells := 0, slots := 0, locals := 0 } (pC z v sc ar [.ref (zad z 27)]) (qI z (fun r u => r = sc 20 ∧ u = (v, sc, ar))) 0 0 (zA z) := by
  refine eM (by decide) (Nat.le_of_ble_eq_true rfl) ?_
  intro pP eE s mM below meth cC ls C hr hlk h hl
  have hx := C.1.1
  have hb := C.1.2.1
  have hl : lv_has ls 1 [(0, .ref (zad z 27))] := hl
  refine lv_aload_n hx hb dX10_thrown_0 rfl (lv_at hl 0 rfl) ?_
  refine rg_X10_99 C h dX10_thrown_1 ?_
  refine tI (y := sc 20) rfl ?_
  exact rI C hr hlk h dX10_thrown_4 (Nat.le_of_ble_eq_true rfl) (Nat.le_of_ble_eq_true rfl) (⟨rfl, rfl⟩)
set_option maxHeartbeats 4000000 in
set_option maxRecDepth 100000 in
theorem r_refuses (l : Launch) (z : bZ) (v : bV) (sc : Nat → Int32) (ar : Nat → Nat → Int32) (k : Nat) (hk : k ≤ 10) : Met l yX10_refuses (Cond.code yX10_refuses cX10_refuses 2 (some .boolean) :: uW) { frames := 0, cells := 0, slots := 0, locals := 0 } (pC z v sc ar [.ref (zad z 27), .int (nI (k))]) (qI z (fun r u => r = nI (if k = 0 then 0 else 1) ∧ u = (v, va_up sc 20 (nI k), ar))) 0 0 (zA z) := by
  refine eM (by decide) (Nat.le_of_ble_eq_true rfl) ?_
  intro pP eE s mM below meth cC ls C hr hlk h hl
  have hx := C.1.1
  have hb := C.1.2.1
  have hl : lv_has ls 2 [(0, .ref (zad z 27)), (1, .int (nI (k)))] := hl
  refine lv_aload_n hx hb dX10_refuses_0 rfl (lv_at hl 0 rfl) ?_
  refine lv_iload_n hx hb dX10_refuses_1 rfl (lv_at hl 1 rfl) ?_
  refine rp_X10_99 C h dX10_refuses_2 (fun H locs h => ?_)
  refine lv_iload_n hx hb dX10_refuses_5 rfl (lv_at hl 1 rfl) ?_
  refine zN_le (tgt := 13) (a := k) C (by omega) dX10_refuses_6 (by decide) (fun c_6 => ?_) (fun c_6 => ?_)
  · skip
    refine lv_iconst (v := nI (0)) hx hb dX10_refuses_13 (by decide) ?_
    exact rZ C hr hlk h dX10_refuses_14 rfl (Nat.le_of_ble_eq_true rfl) (Nat.le_of_ble_eq_true rfl) (⟨by rw [if_pos (by omega)], rfl⟩)
  · skip
    refine lv_iconst (v := nI (1)) hx hb dX10_refuses_9 (by decide) ?_
    refine lv_goto (tgt := 14) hx hb dX10_refuses_10 (by decide) ?_
    exact rZ C hr hlk h dX10_refuses_14 rfl (Nat.le_of_ble_eq_true rfl) (Nat.le_of_ble_eq_true rfl) (⟨by rw [if_neg (by omega)], rfl⟩)
set_option maxHeartbeats 4000000 in
set_option maxRecDepth 100000 in
theorem r_isWay (l : Launch) (z : bZ) (v : bV) (sc : Nat → Int32) (ar : Nat → Nat → Int32) (K : Nat) (x : Int32) (hK : sc 21 = nI K) (hK4 : K ≤ 40) : Met l yX10_isWay (Cond.code yX10_isWay cX10_isWay 2 (some .boolean) :: uW) { frames := 0, cells := 0, slots := 0, locals := 0 } (pC z v sc ar [.ref (zad z 27), .int (x)]) (qI z (fun r u => u = (v, sc, ar) ∧ ((r = nI 1 ∧ isW K x) ∨ (r = nI 0 ∧ ¬ isW K x)))) 0 0 (zA z) := by
  refine eM (by decide) (Nat.le_of_ble_eq_true rfl) ?_
  intro pP eE s mM below meth cC ls C hr hlk h hl
  have hx := C.1.1
  have hb := C.1.2.1
  have hl : lv_has ls 2 [(0, .ref (zad z 27)), (1, .int (x))] := hl
  refine lv_iload_n hx hb dX10_isWay_0 rfl (lv_at hl 1 rfl) ?_
  refine lv_if_lt (tgt := 16) hx hb dX10_isWay_1 (by decide) (fun c_1 => ?_) (fun c_1 => ?_)
  · skip
    refine lv_iconst (v := nI (0)) hx hb dX10_isWay_16 (by decide) ?_
    exact rZ C hr hlk h dX10_isWay_17 rfl (Nat.le_of_ble_eq_true rfl) (Nat.le_of_ble_eq_true rfl) (⟨rfl, Or.inr ⟨rfl, fun ⟨j, hj, e⟩ => absurd c_1 (by rw [e]; exact nI_pos (by omega))⟩⟩)
  · skip
    obtain ⟨j, hj, rfl⟩ := nI_of c_1
    refine lv_iload_n hx hb dX10_isWay_4 rfl (lv_at hl 1 rfl) ?_
    refine lv_aload_n hx hb dX10_isWay_5 rfl (lv_at hl 0 rfl) ?_
    refine rg_X10_102 C h dX10_isWay_6 ?_
    refine tI (y := nI (K)) hK ?_
    refine jN_ge (tgt := 16) (a := j) (b := K) C (by omega) (by omega) dX10_isWay_9 (by decide) (fun c_9 => ?_) (fun c_9 => ?_)
    · skip
      refine lv_iconst (v := nI (0)) hx hb dX10_isWay_16 (by decide) ?_
      exact rZ C hr hlk h dX10_isWay_17 rfl (Nat.le_of_ble_eq_true rfl) (Nat.le_of_ble_eq_true rfl) (⟨rfl, Or.inr ⟨rfl, fun ⟨q, hq, e⟩ => absurd ((nI_eq hj (by omega)).mp e) (by omega)⟩⟩)
    · skip
      refine lv_iconst (v := nI (1)) hx hb dX10_isWay_12 (by decide) ?_
      refine lv_goto (tgt := 17) hx hb dX10_isWay_13 (by decide) ?_
      exact rZ C hr hlk h dX10_isWay_17 rfl (Nat.le_of_ble_eq_true rfl) (Nat.le_of_ble_eq_true rfl) (⟨rfl, Or.inl ⟨rfl, j, c_9, rfl⟩⟩)
set_option maxHeartbeats 4000000 in
set_option maxRecDepth 100000 in
theorem r_add (l : Launch) (z : bZ) (v : bV) (sc : Nat → Int32) (ar : Nat → Nat → Int32) (K : Nat) (x0 x1 x2 x3 x4 : Int32) (hK : sc 21 = nI K) (hK4 : K < 40) : Met l yX10_add (Cond.code yX10_add cX10_add 6 (some .int) :: uW) { frames := 0, cells := 0, slots := 0, locals := 0 } (pC z v sc ar [.ref (zad z 27), .int (x0), .int (x1), .int (x2), .int (x3), .int (x4)]) (qI z (fun r u => r = nI K ∧ u = (v, va_up sc 21 (nI (K + 1)), adA ar K x0 x1 x2 x3 x4))) 0 0 (zA z) := by
  refine eM (by decide) (Nat.le_of_ble_eq_true rfl) ?_
  intro pP eE s mM below meth cC ls C hr hlk h hl
  have hx := C.1.1
  have hb := C.1.2.1
  have hl : lv_has ls 6 [(0, .ref (zad z 27)), (1, .int (x0)), (2, .int (x1)), (3, .int (x2)), (4, .int (x3)), (5, .int (x4))] := hl
  refine lv_aload_n hx hb dX10_add_0 rfl (lv_at hl 0 rfl) ?_
  refine rg_X10_7 C h dX10_add_1 ?_
  refine lv_aload_n hx hb dX10_add_4 rfl (lv_at hl 0 rfl) ?_
  refine rg_X10_102 C h dX10_add_5 ?_
  refine tI (y := nI (K)) hK ?_
  refine lv_iload_n hx hb dX10_add_8 rfl (lv_at hl 1 rfl) ?_
  refine stA 28 rfl (j := K) (x := x0) (show K < 40 by omega) (by decide) C h dX10_add_9 (fun H locs h => ?_)
  refine lv_aload_n hx hb dX10_add_10 rfl (lv_at hl 0 rfl) ?_
  refine rg_X10_13 C h dX10_add_11 ?_
  refine lv_aload_n hx hb dX10_add_14 rfl (lv_at hl 0 rfl) ?_
  refine rg_X10_102 C h dX10_add_15 ?_
  refine tI (y := nI (K)) hK ?_
  refine lv_iload_n hx hb dX10_add_18 rfl (lv_at hl 2 rfl) ?_
  refine stA 29 rfl (j := K) (x := x1) (show K < 40 by omega) (by decide) C h dX10_add_19 (fun H locs h => ?_)
  refine lv_aload_n hx hb dX10_add_20 rfl (lv_at hl 0 rfl) ?_
  refine rg_X10_16 C h dX10_add_21 ?_
  refine lv_aload_n hx hb dX10_add_24 rfl (lv_at hl 0 rfl) ?_
  refine rg_X10_102 C h dX10_add_25 ?_
  refine tI (y := nI (K)) hK ?_
  refine lv_iload_n hx hb dX10_add_28 rfl (lv_at hl 3 rfl) ?_
  refine stA 30 rfl (j := K) (x := x2) (show K < 40 by omega) (by decide) C h dX10_add_29 (fun H locs h => ?_)
  refine lv_aload_n hx hb dX10_add_30 rfl (lv_at hl 0 rfl) ?_
  refine rg_X10_19 C h dX10_add_31 ?_
  refine lv_aload_n hx hb dX10_add_34 rfl (lv_at hl 0 rfl) ?_
  refine rg_X10_102 C h dX10_add_35 ?_
  refine tI (y := nI (K)) hK ?_
  refine lv_iload hx hb dX10_add_38 (lv_at hl 4 rfl) ?_
  refine stA 31 rfl (j := K) (x := x3) (show K < 40 by omega) (by decide) C h dX10_add_40 (fun H locs h => ?_)
  refine lv_aload_n hx hb dX10_add_41 rfl (lv_at hl 0 rfl) ?_
  refine rg_X10_22 C h dX10_add_42 ?_
  refine lv_aload_n hx hb dX10_add_45 rfl (lv_at hl 0 rfl) ?_
  refine rg_X10_102 C h dX10_add_46 ?_
  refine tI (y := nI (K)) hK ?_
  refine lv_iload hx hb dX10_add_49 (lv_at hl 5 rfl) ?_
  refine stA 32 rfl (j := K) (x := x4) (show K < 40 by omega) (by decide) C h dX10_add_51 (fun H locs h => ?_)
  refine lv_aload_n hx hb dX10_add_52 rfl (lv_at hl 0 rfl) ?_
  refine lv_dup hx hb dX10_add_53 rfl ?_
  refine rg_X10_102 C h dX10_add_54 ?_
  refine tI (y := nI (K)) hK ?_
  refine lv_iconst (v := nI (1)) hx hb dX10_add_57 (by decide) ?_
  refine lv_iadd hx hb dX10_add_58 ?_
  refine tI (nI_add _ _) ?_
  refine rp_X10_102 C h dX10_add_59 (fun H locs h => ?_)
  refine lv_aload_n hx hb dX10_add_62 rfl (lv_at hl 0 rfl) ?_
  refine rg_X10_102 C h dX10_add_63 ?_
  refine tI (y := nI ((K) + (1))) rfl ?_
  refine lv_iconst (v := nI (1)) hx hb dX10_add_66 (by decide) ?_
  refine lv_isub hx hb dX10_add_67 ?_
  refine tI (pk_sub (by omega)) ?_
  exact rI C hr hlk h dX10_add_68 (Nat.le_of_ble_eq_true rfl) (Nat.le_of_ble_eq_true rfl) (⟨by rw [show K + 1 - 1 = K from rfl], rfl⟩)
theorem gv_X10_105 : GoodIn uW (wsV RX10 105 RX10 yX10_refuses (Cond.code yX10_refuses cX10_refuses 2 (some .boolean) :: uW)) := gI_V (uW_of (by decide +kernel) rfl) (uW_of (by decide +kernel) rfl) (uW_of (by decide +kernel) rfl) (uW_of (by decide +kernel) rfl) (uW_of (by decide +kernel) rfl)
theorem gv_X10_105_n : okN yX10_refuses 1 := by decide +kernel
theorem gv_X10_109 : GoodIn uW (wsV RX10 109 RX10 yX10_add (Cond.code yX10_add cX10_add 6 (some .int) :: uW)) := gI_V (uW_of (by decide +kernel) rfl) (uW_of (by decide +kernel) rfl) (uW_of (by decide +kernel) rfl) (uW_of (by decide +kernel) rfl) (uW_of (by decide +kernel) rfl)
theorem gv_X10_109_n : okN yX10_add 5 := by decide +kernel
set_option maxHeartbeats 4000000 in
set_option maxRecDepth 100000 in
theorem r_coding (l : Launch) (z : bZ) (v : bV) (sc : Nat → Int32) (ar : Nat → Nat → Int32) (K : Nat) (b1 h1 s1 d1 : Int32) (hK : sc 21 = nI K) (hK4 : K ≤ 40) : Met l yX10_coding (Cond.code yX10_coding cX10_coding 6 (some .int) :: uW) { frames := 1, cells := 0, slots := 0, locals := 25 } (pC z v sc ar [.ref (zad z 27), .int (b1), .int (h1), .int (s1), .int (d1)]) (qI z (fun r u => (¬ cdGood b1 h1 s1 d1 ∧ u = (v, va_up sc 20 (nI 1), ar)) ∨ (cdGood b1 h1 s1 d1 ∧ K = 40 ∧ u = (v, va_up sc 20 (nI 2), ar)) ∨ (cdGood b1 h1 s1 d1 ∧ K < 40 ∧ r = nI K ∧ u = (v, va_up (va_up sc 20 (nI 0)) 21 (nI (K + 1)), adA (va_up ar 33 (upd (ar 33) K (nI 0))) K (nI 0) b1 h1 s1 d1)))) 0 0 (zA z) := by
  refine eM (by decide) (Nat.le_of_ble_eq_true rfl) ?_
  intro pP eE s mM below meth cC ls C hr hlk h hl
  have hx := C.1.1
  have hb := C.1.2.1
  have hl : lv_has ls 6 [(0, .ref (zad z 27)), (1, .int (b1)), (2, .int (h1)), (3, .int (s1)), (4, .int (d1))] := hl
  refine lv_iload_n hx hb dX10_coding_0 rfl (lv_at hl 1 rfl) ?_
  refine lv_iconst (v := nI (1)) hx hb dX10_coding_1 (by decide) ?_
  refine lv_icmp_lt (tgt := 46) hx hb dX10_coding_2 (by decide) (fun c_2 => ?_) (fun c_2 => ?_)
  · skip
    refine lv_iconst (v := nI (0)) hx hb dX10_coding_46 (by decide) ?_
    refine lv_istore (lv' := [(5, .int (nI (0))), (0, .ref (zad z 27)), (1, .int (b1)), (2, .int (h1)), (3, .int (s1)), (4, .int (d1))]) hx hb dX10_coding_47 hl (by decide) rfl (fun ls hl => ?_)
    refine lv_aload_n hx hb dX10_coding_49 rfl (lv_at hl 1 rfl) ?_
    refine lv_iload hx hb dX10_coding_50 (lv_at hl 0 rfl) ?_
    refine zN_ne (tgt := 59) (a := 0) C (by decide) dX10_coding_52 (by decide) (fun q => absurd q (by decide)) (fun _ => ?_)
    refine lv_iconst (v := nI (1)) hx hb dX10_coding_55 (by decide) ?_
    refine lv_goto (tgt := 73) hx hb dX10_coding_56 (by decide) ?_
    refine backI h (runV (As := [.int (nI (1))]) (rest := []) C h (r_refuses l z v sc ar 1 (by decide)) gv_X10_105 gv_X10_105_n ⟨rfl, rfl⟩ (r_Ref C h) rfl hl.1 rfl (Nat.le_of_ble_eq_true rfl) dX10_coding_73 ⟨Nat.le_of_ble_eq_true rfl, Nat.le_of_ble_eq_true rfl⟩ ⟨Nat.le_of_ble_eq_true rfl, Nat.le_of_ble_eq_true rfl⟩) (fun r_73 v_73 sc_73 ar_73 H locs p_73 h => ?_)
    have h : hH z v (va_up sc 20 (nI (1))) ar s H locs := uEq p_73.2 h
    refine tI (y := nI (1)) p_73.1 ?_
    refine zN_eq (tgt := 81) (a := 1) C (by decide) dX10_coding_76 (by decide) (fun q => absurd q (by decide)) (fun _ => ?_)
    refine lv_iconst (v := nI (0)) hx hb dX10_coding_79 (by decide) ?_
    exact rI C hr hlk h dX10_coding_80 (Nat.le_of_ble_eq_true rfl) (Nat.le_of_ble_eq_true rfl) (Or.inl ⟨fun g => rNo (lo := 1) (hi := 5) (by decide) (by decide) (Or.inl c_2) g.1, rfl⟩)
  · skip
    refine lv_iload_n hx hb dX10_coding_5 rfl (lv_at hl 1 rfl) ?_
    refine lv_iconst (v := nI (5)) hx hb dX10_coding_6 (by decide) ?_
    refine lv_icmp_gt (tgt := 46) hx hb dX10_coding_7 (by decide) (fun c_7 => ?_) (fun c_7 => ?_)
    · skip
      refine lv_iconst (v := nI (0)) hx hb dX10_coding_46 (by decide) ?_
      refine lv_istore (lv' := [(5, .int (nI (0))), (0, .ref (zad z 27)), (1, .int (b1)), (2, .int (h1)), (3, .int (s1)), (4, .int (d1))]) hx hb dX10_coding_47 hl (by decide) rfl (fun ls hl => ?_)
      refine lv_aload_n hx hb dX10_coding_49 rfl (lv_at hl 1 rfl) ?_
      refine lv_iload hx hb dX10_coding_50 (lv_at hl 0 rfl) ?_
      refine zN_ne (tgt := 59) (a := 0) C (by decide) dX10_coding_52 (by decide) (fun q => absurd q (by decide)) (fun _ => ?_)
      refine lv_iconst (v := nI (1)) hx hb dX10_coding_55 (by decide) ?_
      refine lv_goto (tgt := 73) hx hb dX10_coding_56 (by decide) ?_
      refine backI h (runV (As := [.int (nI (1))]) (rest := []) C h (r_refuses l z v sc ar 1 (by decide)) gv_X10_105 gv_X10_105_n ⟨rfl, rfl⟩ (r_Ref C h) rfl hl.1 rfl (Nat.le_of_ble_eq_true rfl) dX10_coding_73 ⟨Nat.le_of_ble_eq_true rfl, Nat.le_of_ble_eq_true rfl⟩ ⟨Nat.le_of_ble_eq_true rfl, Nat.le_of_ble_eq_true rfl⟩) (fun r_73 v_73 sc_73 ar_73 H locs p_73 h => ?_)
      have h : hH z v (va_up sc 20 (nI (1))) ar s H locs := uEq p_73.2 h
      refine tI (y := nI (1)) p_73.1 ?_
      refine zN_eq (tgt := 81) (a := 1) C (by decide) dX10_coding_76 (by decide) (fun q => absurd q (by decide)) (fun _ => ?_)
      refine lv_iconst (v := nI (0)) hx hb dX10_coding_79 (by decide) ?_
      exact rI C hr hlk h dX10_coding_80 (Nat.le_of_ble_eq_true rfl) (Nat.le_of_ble_eq_true rfl) (Or.inl ⟨fun g => rNo (lo := 1) (hi := 5) (by decide) (by decide) (Or.inr c_7) g.1, rfl⟩)
    · skip
      refine lv_iload_n hx hb dX10_coding_10 rfl (lv_at hl 2 rfl) ?_
      refine lv_iconst (v := nI (1)) hx hb dX10_coding_11 (by decide) ?_
      refine lv_icmp_lt (tgt := 46) hx hb dX10_coding_12 (by decide) (fun c_12 => ?_) (fun c_12 => ?_)
      · skip
        refine lv_iconst (v := nI (0)) hx hb dX10_coding_46 (by decide) ?_
        refine lv_istore (lv' := [(5, .int (nI (0))), (0, .ref (zad z 27)), (1, .int (b1)), (2, .int (h1)), (3, .int (s1)), (4, .int (d1))]) hx hb dX10_coding_47 hl (by decide) rfl (fun ls hl => ?_)
        refine lv_aload_n hx hb dX10_coding_49 rfl (lv_at hl 1 rfl) ?_
        refine lv_iload hx hb dX10_coding_50 (lv_at hl 0 rfl) ?_
        refine zN_ne (tgt := 59) (a := 0) C (by decide) dX10_coding_52 (by decide) (fun q => absurd q (by decide)) (fun _ => ?_)
        refine lv_iconst (v := nI (1)) hx hb dX10_coding_55 (by decide) ?_
        refine lv_goto (tgt := 73) hx hb dX10_coding_56 (by decide) ?_
        refine backI h (runV (As := [.int (nI (1))]) (rest := []) C h (r_refuses l z v sc ar 1 (by decide)) gv_X10_105 gv_X10_105_n ⟨rfl, rfl⟩ (r_Ref C h) rfl hl.1 rfl (Nat.le_of_ble_eq_true rfl) dX10_coding_73 ⟨Nat.le_of_ble_eq_true rfl, Nat.le_of_ble_eq_true rfl⟩ ⟨Nat.le_of_ble_eq_true rfl, Nat.le_of_ble_eq_true rfl⟩) (fun r_73 v_73 sc_73 ar_73 H locs p_73 h => ?_)
        have h : hH z v (va_up sc 20 (nI (1))) ar s H locs := uEq p_73.2 h
        refine tI (y := nI (1)) p_73.1 ?_
        refine zN_eq (tgt := 81) (a := 1) C (by decide) dX10_coding_76 (by decide) (fun q => absurd q (by decide)) (fun _ => ?_)
        refine lv_iconst (v := nI (0)) hx hb dX10_coding_79 (by decide) ?_
        exact rI C hr hlk h dX10_coding_80 (Nat.le_of_ble_eq_true rfl) (Nat.le_of_ble_eq_true rfl) (Or.inl ⟨fun g => rNo (lo := 1) (hi := 256) (by decide) (by decide) (Or.inl c_12) g.2.1, rfl⟩)
      · skip
        refine lv_iload_n hx hb dX10_coding_15 rfl (lv_at hl 2 rfl) ?_
        refine lv_sipush (v := nI (256)) hx hb dX10_coding_16 (by decide) ?_
        refine lv_icmp_gt (tgt := 46) hx hb dX10_coding_19 (by decide) (fun c_19 => ?_) (fun c_19 => ?_)
        · skip
          refine lv_iconst (v := nI (0)) hx hb dX10_coding_46 (by decide) ?_
          refine lv_istore (lv' := [(5, .int (nI (0))), (0, .ref (zad z 27)), (1, .int (b1)), (2, .int (h1)), (3, .int (s1)), (4, .int (d1))]) hx hb dX10_coding_47 hl (by decide) rfl (fun ls hl => ?_)
          refine lv_aload_n hx hb dX10_coding_49 rfl (lv_at hl 1 rfl) ?_
          refine lv_iload hx hb dX10_coding_50 (lv_at hl 0 rfl) ?_
          refine zN_ne (tgt := 59) (a := 0) C (by decide) dX10_coding_52 (by decide) (fun q => absurd q (by decide)) (fun _ => ?_)
          refine lv_iconst (v := nI (1)) hx hb dX10_coding_55 (by decide) ?_
          refine lv_goto (tgt := 73) hx hb dX10_coding_56 (by decide) ?_
          refine backI h (runV (As := [.int (nI (1))]) (rest := []) C h (r_refuses l z v sc ar 1 (by decide)) gv_X10_105 gv_X10_105_n ⟨rfl, rfl⟩ (r_Ref C h) rfl hl.1 rfl (Nat.le_of_ble_eq_true rfl) dX10_coding_73 ⟨Nat.le_of_ble_eq_true rfl, Nat.le_of_ble_eq_true rfl⟩ ⟨Nat.le_of_ble_eq_true rfl, Nat.le_of_ble_eq_true rfl⟩) (fun r_73 v_73 sc_73 ar_73 H locs p_73 h => ?_)
          have h : hH z v (va_up sc 20 (nI (1))) ar s H locs := uEq p_73.2 h
          refine tI (y := nI (1)) p_73.1 ?_
          refine zN_eq (tgt := 81) (a := 1) C (by decide) dX10_coding_76 (by decide) (fun q => absurd q (by decide)) (fun _ => ?_)
          refine lv_iconst (v := nI (0)) hx hb dX10_coding_79 (by decide) ?_
          exact rI C hr hlk h dX10_coding_80 (Nat.le_of_ble_eq_true rfl) (Nat.le_of_ble_eq_true rfl) (Or.inl ⟨fun g => rNo (lo := 1) (hi := 256) (by decide) (by decide) (Or.inr c_19) g.2.1, rfl⟩)
        · skip
          refine lv_iload_n hx hb dX10_coding_22 rfl (lv_at hl 3 rfl) ?_
          refine lv_if_lt (tgt := 46) hx hb dX10_coding_23 (by decide) (fun c_23 => ?_) (fun c_23 => ?_)
          · skip
            refine lv_iconst (v := nI (0)) hx hb dX10_coding_46 (by decide) ?_
            refine lv_istore (lv' := [(5, .int (nI (0))), (0, .ref (zad z 27)), (1, .int (b1)), (2, .int (h1)), (3, .int (s1)), (4, .int (d1))]) hx hb dX10_coding_47 hl (by decide) rfl (fun ls hl => ?_)
            refine lv_aload_n hx hb dX10_coding_49 rfl (lv_at hl 1 rfl) ?_
            refine lv_iload hx hb dX10_coding_50 (lv_at hl 0 rfl) ?_
            refine zN_ne (tgt := 59) (a := 0) C (by decide) dX10_coding_52 (by decide) (fun q => absurd q (by decide)) (fun _ => ?_)
            refine lv_iconst (v := nI (1)) hx hb dX10_coding_55 (by decide) ?_
            refine lv_goto (tgt := 73) hx hb dX10_coding_56 (by decide) ?_
            refine backI h (runV (As := [.int (nI (1))]) (rest := []) C h (r_refuses l z v sc ar 1 (by decide)) gv_X10_105 gv_X10_105_n ⟨rfl, rfl⟩ (r_Ref C h) rfl hl.1 rfl (Nat.le_of_ble_eq_true rfl) dX10_coding_73 ⟨Nat.le_of_ble_eq_true rfl, Nat.le_of_ble_eq_true rfl⟩ ⟨Nat.le_of_ble_eq_true rfl, Nat.le_of_ble_eq_true rfl⟩) (fun r_73 v_73 sc_73 ar_73 H locs p_73 h => ?_)
            have h : hH z v (va_up sc 20 (nI (1))) ar s H locs := uEq p_73.2 h
            refine tI (y := nI (1)) p_73.1 ?_
            refine zN_eq (tgt := 81) (a := 1) C (by decide) dX10_coding_76 (by decide) (fun q => absurd q (by decide)) (fun _ => ?_)
            refine lv_iconst (v := nI (0)) hx hb dX10_coding_79 (by decide) ?_
            exact rI C hr hlk h dX10_coding_80 (Nat.le_of_ble_eq_true rfl) (Nat.le_of_ble_eq_true rfl) (Or.inl ⟨fun g => rNo (lo := 0) (hi := 2) (by decide) (by decide) (Or.inl c_23) g.2.2.1, rfl⟩)
          · skip
            refine lv_iload_n hx hb dX10_coding_26 rfl (lv_at hl 3 rfl) ?_
            refine lv_iconst (v := nI (2)) hx hb dX10_coding_27 (by decide) ?_
            refine lv_icmp_gt (tgt := 46) hx hb dX10_coding_28 (by decide) (fun c_28 => ?_) (fun c_28 => ?_)
            · skip
              refine lv_iconst (v := nI (0)) hx hb dX10_coding_46 (by decide) ?_
              refine lv_istore (lv' := [(5, .int (nI (0))), (0, .ref (zad z 27)), (1, .int (b1)), (2, .int (h1)), (3, .int (s1)), (4, .int (d1))]) hx hb dX10_coding_47 hl (by decide) rfl (fun ls hl => ?_)
              refine lv_aload_n hx hb dX10_coding_49 rfl (lv_at hl 1 rfl) ?_
              refine lv_iload hx hb dX10_coding_50 (lv_at hl 0 rfl) ?_
              refine zN_ne (tgt := 59) (a := 0) C (by decide) dX10_coding_52 (by decide) (fun q => absurd q (by decide)) (fun _ => ?_)
              refine lv_iconst (v := nI (1)) hx hb dX10_coding_55 (by decide) ?_
              refine lv_goto (tgt := 73) hx hb dX10_coding_56 (by decide) ?_
              refine backI h (runV (As := [.int (nI (1))]) (rest := []) C h (r_refuses l z v sc ar 1 (by decide)) gv_X10_105 gv_X10_105_n ⟨rfl, rfl⟩ (r_Ref C h) rfl hl.1 rfl (Nat.le_of_ble_eq_true rfl) dX10_coding_73 ⟨Nat.le_of_ble_eq_true rfl, Nat.le_of_ble_eq_true rfl⟩ ⟨Nat.le_of_ble_eq_true rfl, Nat.le_of_ble_eq_true rfl⟩) (fun r_73 v_73 sc_73 ar_73 H locs p_73 h => ?_)
              have h : hH z v (va_up sc 20 (nI (1))) ar s H locs := uEq p_73.2 h
              refine tI (y := nI (1)) p_73.1 ?_
              refine zN_eq (tgt := 81) (a := 1) C (by decide) dX10_coding_76 (by decide) (fun q => absurd q (by decide)) (fun _ => ?_)
              refine lv_iconst (v := nI (0)) hx hb dX10_coding_79 (by decide) ?_
              exact rI C hr hlk h dX10_coding_80 (Nat.le_of_ble_eq_true rfl) (Nat.le_of_ble_eq_true rfl) (Or.inl ⟨fun g => rNo (lo := 0) (hi := 2) (by decide) (by decide) (Or.inr c_28) g.2.2.1, rfl⟩)
            · skip
              refine lv_iload hx hb dX10_coding_31 (lv_at hl 4 rfl) ?_
              refine lv_if_lt (tgt := 46) hx hb dX10_coding_33 (by decide) (fun c_33 => ?_) (fun c_33 => ?_)
              · skip
                refine lv_iconst (v := nI (0)) hx hb dX10_coding_46 (by decide) ?_
                refine lv_istore (lv' := [(5, .int (nI (0))), (0, .ref (zad z 27)), (1, .int (b1)), (2, .int (h1)), (3, .int (s1)), (4, .int (d1))]) hx hb dX10_coding_47 hl (by decide) rfl (fun ls hl => ?_)
                refine lv_aload_n hx hb dX10_coding_49 rfl (lv_at hl 1 rfl) ?_
                refine lv_iload hx hb dX10_coding_50 (lv_at hl 0 rfl) ?_
                refine zN_ne (tgt := 59) (a := 0) C (by decide) dX10_coding_52 (by decide) (fun q => absurd q (by decide)) (fun _ => ?_)
                refine lv_iconst (v := nI (1)) hx hb dX10_coding_55 (by decide) ?_
                refine lv_goto (tgt := 73) hx hb dX10_coding_56 (by decide) ?_
                refine backI h (runV (As := [.int (nI (1))]) (rest := []) C h (r_refuses l z v sc ar 1 (by decide)) gv_X10_105 gv_X10_105_n ⟨rfl, rfl⟩ (r_Ref C h) rfl hl.1 rfl (Nat.le_of_ble_eq_true rfl) dX10_coding_73 ⟨Nat.le_of_ble_eq_true rfl, Nat.le_of_ble_eq_true rfl⟩ ⟨Nat.le_of_ble_eq_true rfl, Nat.le_of_ble_eq_true rfl⟩) (fun r_73 v_73 sc_73 ar_73 H locs p_73 h => ?_)
                have h : hH z v (va_up sc 20 (nI (1))) ar s H locs := uEq p_73.2 h
                refine tI (y := nI (1)) p_73.1 ?_
                refine zN_eq (tgt := 81) (a := 1) C (by decide) dX10_coding_76 (by decide) (fun q => absurd q (by decide)) (fun _ => ?_)
                refine lv_iconst (v := nI (0)) hx hb dX10_coding_79 (by decide) ?_
                exact rI C hr hlk h dX10_coding_80 (Nat.le_of_ble_eq_true rfl) (Nat.le_of_ble_eq_true rfl) (Or.inl ⟨fun g => rNo (lo := 0) (hi := 1) (by decide) (by decide) (Or.inl c_33) g.2.2.2, rfl⟩)
              · skip
                refine lv_iload hx hb dX10_coding_36 (lv_at hl 4 rfl) ?_
                refine lv_iconst (v := nI (1)) hx hb dX10_coding_38 (by decide) ?_
                refine lv_icmp_gt (tgt := 46) hx hb dX10_coding_39 (by decide) (fun c_39 => ?_) (fun c_39 => ?_)
                · skip
                  refine lv_iconst (v := nI (0)) hx hb dX10_coding_46 (by decide) ?_
                  refine lv_istore (lv' := [(5, .int (nI (0))), (0, .ref (zad z 27)), (1, .int (b1)), (2, .int (h1)), (3, .int (s1)), (4, .int (d1))]) hx hb dX10_coding_47 hl (by decide) rfl (fun ls hl => ?_)
                  refine lv_aload_n hx hb dX10_coding_49 rfl (lv_at hl 1 rfl) ?_
                  refine lv_iload hx hb dX10_coding_50 (lv_at hl 0 rfl) ?_
                  refine zN_ne (tgt := 59) (a := 0) C (by decide) dX10_coding_52 (by decide) (fun q => absurd q (by decide)) (fun _ => ?_)
                  refine lv_iconst (v := nI (1)) hx hb dX10_coding_55 (by decide) ?_
                  refine lv_goto (tgt := 73) hx hb dX10_coding_56 (by decide) ?_
                  refine backI h (runV (As := [.int (nI (1))]) (rest := []) C h (r_refuses l z v sc ar 1 (by decide)) gv_X10_105 gv_X10_105_n ⟨rfl, rfl⟩ (r_Ref C h) rfl hl.1 rfl (Nat.le_of_ble_eq_true rfl) dX10_coding_73 ⟨Nat.le_of_ble_eq_true rfl, Nat.le_of_ble_eq_true rfl⟩ ⟨Nat.le_of_ble_eq_true rfl, Nat.le_of_ble_eq_true rfl⟩) (fun r_73 v_73 sc_73 ar_73 H locs p_73 h => ?_)
                  have h : hH z v (va_up sc 20 (nI (1))) ar s H locs := uEq p_73.2 h
                  refine tI (y := nI (1)) p_73.1 ?_
                  refine zN_eq (tgt := 81) (a := 1) C (by decide) dX10_coding_76 (by decide) (fun q => absurd q (by decide)) (fun _ => ?_)
                  refine lv_iconst (v := nI (0)) hx hb dX10_coding_79 (by decide) ?_
                  exact rI C hr hlk h dX10_coding_80 (Nat.le_of_ble_eq_true rfl) (Nat.le_of_ble_eq_true rfl) (Or.inl ⟨fun g => rNo (lo := 0) (hi := 1) (by decide) (by decide) (Or.inr c_39) g.2.2.2, rfl⟩)
                · skip
                  refine lv_iconst (v := nI (1)) hx hb dX10_coding_42 (by decide) ?_
                  refine lv_goto (tgt := 47) hx hb dX10_coding_43 (by decide) ?_
                  refine lv_istore (lv' := [(5, .int (nI (1))), (0, .ref (zad z 27)), (1, .int (b1)), (2, .int (h1)), (3, .int (s1)), (4, .int (d1))]) hx hb dX10_coding_47 hl (by decide) rfl (fun ls hl => ?_)
                  refine lv_aload_n hx hb dX10_coding_49 rfl (lv_at hl 1 rfl) ?_
                  refine lv_iload hx hb dX10_coding_50 (lv_at hl 0 rfl) ?_
                  refine zN_ne (tgt := 59) (a := 1) C (by decide) dX10_coding_52 (by decide) (fun _ => ?_) (fun q => absurd q (by decide))
                  refine lv_aload_n hx hb dX10_coding_59 rfl (lv_at hl 1 rfl) ?_
                  refine rg_X10_102 C h dX10_coding_60 ?_
                  refine tI (y := nI (K)) hK ?_
                  refine lv_bipush (v := nI (40)) hx hb dX10_coding_63 (by decide) ?_
                  refine jN_ne (tgt := 72) (a := K) (b := 40) C (by omega) (by omega) dX10_coding_65 (by decide) (fun c_65 => ?_) (fun c_65 => ?_)
                  · skip
                    refine lv_iconst (v := nI (0)) hx hb dX10_coding_72 (by decide) ?_
                    refine backI h (runV (As := [.int (nI (0))]) (rest := []) C h (r_refuses l z v sc ar 0 (by decide)) gv_X10_105 gv_X10_105_n ⟨rfl, rfl⟩ (r_Ref C h) rfl hl.1 rfl (Nat.le_of_ble_eq_true rfl) dX10_coding_73 ⟨Nat.le_of_ble_eq_true rfl, Nat.le_of_ble_eq_true rfl⟩ ⟨Nat.le_of_ble_eq_true rfl, Nat.le_of_ble_eq_true rfl⟩) (fun r_73 v_73 sc_73 ar_73 H locs p_73 h => ?_)
                    have h : hH z v (va_up sc 20 (nI (0))) ar s H locs := uEq p_73.2 h
                    refine tI (y := nI (0)) p_73.1 ?_
                    refine zN_eq (tgt := 81) (a := 0) C (by decide) dX10_coding_76 (by decide) (fun _ => ?_) (fun q => absurd q (by decide))
                    refine lv_aload_n hx hb dX10_coding_81 rfl (lv_at hl 1 rfl) ?_
                    refine rg_X10_25 C h dX10_coding_82 ?_
                    refine lv_aload_n hx hb dX10_coding_85 rfl (lv_at hl 1 rfl) ?_
                    refine rg_X10_102 C h dX10_coding_86 ?_
                    refine tI (y := nI (K)) hK ?_
                    refine lv_iconst (v := nI (0)) hx hb dX10_coding_89 (by decide) ?_
                    refine stA 33 rfl (j := K) (x := nI (0)) (show K < 40 by omega) (by decide) C h dX10_coding_90 (fun H locs h => ?_)
                    refine lv_aload_n hx hb dX10_coding_91 rfl (lv_at hl 1 rfl) ?_
                    refine lv_iconst (v := nI (0)) hx hb dX10_coding_92 (by decide) ?_
                    refine lv_iload_n hx hb dX10_coding_93 rfl (lv_at hl 2 rfl) ?_
                    refine lv_iload_n hx hb dX10_coding_94 rfl (lv_at hl 3 rfl) ?_
                    refine lv_iload_n hx hb dX10_coding_95 rfl (lv_at hl 4 rfl) ?_
                    refine lv_iload hx hb dX10_coding_96 (lv_at hl 5 rfl) ?_
                    refine backI h (runV (As := [.int (nI (0)), .int (b1), .int (h1), .int (s1), .int (d1)]) (rest := []) C h (r_add l z v (va_up sc 20 (nI (0))) (va_up ar 33 (upd (ar 33) (K) (nI (0)))) K (nI 0) b1 h1 s1 d1 hK (by omega)) gv_X10_109 gv_X10_109_n ⟨rfl, rfl⟩ (r_Ref C h) rfl hl.1 rfl (Nat.le_of_ble_eq_true rfl) dX10_coding_98 ⟨Nat.le_of_ble_eq_true rfl, Nat.le_of_ble_eq_true rfl⟩ ⟨Nat.le_of_ble_eq_true rfl, Nat.le_of_ble_eq_true rfl⟩) (fun r_98 v_98 sc_98 ar_98 H locs p_98 h => ?_)
                    have h : hH z v (va_up (va_up sc 20 (nI (0))) 21 (nI (K + 1))) (adA (va_up ar 33 (upd (ar 33) (K) (nI (0)))) K (nI 0) b1 h1 s1 d1) s H locs := uEq p_98.2 h
                    refine tI (y := nI (K)) p_98.1 ?_
                    exact rI C hr hlk h dX10_coding_101 (Nat.le_of_ble_eq_true rfl) (Nat.le_of_ble_eq_true rfl) (Or.inr (Or.inr ⟨⟨rIn (lo := 1) (hi := 5) (by decide) (by decide) c_2 (Int32.not_lt.mpr (Int32.not_lt.mp c_7)), rIn (lo := 1) (hi := 256) (by decide) (by decide) c_12 (Int32.not_lt.mpr (Int32.not_lt.mp c_19)), rIn (lo := 0) (hi := 2) (by decide) (by decide) c_23 (Int32.not_lt.mpr (Int32.not_lt.mp c_28)), rIn (lo := 0) (hi := 1) (by decide) (by decide) c_33 (Int32.not_lt.mpr (Int32.not_lt.mp c_39))⟩, by omega, rfl, rfl⟩))
                  · skip
                    refine lv_iconst (v := nI (2)) hx hb dX10_coding_68 (by decide) ?_
                    refine lv_goto (tgt := 73) hx hb dX10_coding_69 (by decide) ?_
                    refine backI h (runV (As := [.int (nI (2))]) (rest := []) C h (r_refuses l z v sc ar 2 (by decide)) gv_X10_105 gv_X10_105_n ⟨rfl, rfl⟩ (r_Ref C h) rfl hl.1 rfl (Nat.le_of_ble_eq_true rfl) dX10_coding_73 ⟨Nat.le_of_ble_eq_true rfl, Nat.le_of_ble_eq_true rfl⟩ ⟨Nat.le_of_ble_eq_true rfl, Nat.le_of_ble_eq_true rfl⟩) (fun r_73 v_73 sc_73 ar_73 H locs p_73 h => ?_)
                    have h : hH z v (va_up sc 20 (nI (2))) ar s H locs := uEq p_73.2 h
                    refine tI (y := nI (1)) p_73.1 ?_
                    refine zN_eq (tgt := 81) (a := 1) C (by decide) dX10_coding_76 (by decide) (fun q => absurd q (by decide)) (fun _ => ?_)
                    refine lv_iconst (v := nI (0)) hx hb dX10_coding_79 (by decide) ?_
                    exact rI C hr hlk h dX10_coding_80 (Nat.le_of_ble_eq_true rfl) (Nat.le_of_ble_eq_true rfl) (Or.inr (Or.inl ⟨⟨rIn (lo := 1) (hi := 5) (by decide) (by decide) c_2 (Int32.not_lt.mpr (Int32.not_lt.mp c_7)), rIn (lo := 1) (hi := 256) (by decide) (by decide) c_12 (Int32.not_lt.mpr (Int32.not_lt.mp c_19)), rIn (lo := 0) (hi := 2) (by decide) (by decide) c_23 (Int32.not_lt.mpr (Int32.not_lt.mp c_28)), rIn (lo := 0) (hi := 1) (by decide) (by decide) c_33 (Int32.not_lt.mpr (Int32.not_lt.mp c_39))⟩, c_65, rfl⟩))
set_option maxHeartbeats 4000000 in
set_option maxRecDepth 100000 in
theorem r_deep (l : Launch) (z : bZ) (v : bV) (sc : Nat → Int32) (ar : Nat → Nat → Int32) (K a b : Nat) (wt : Nat → Nat → Nat) (dp : Nat → Nat) (hK4 : K ≤ 40) (hRW : RW wt dp K ar) (ha : a < K) (hb2 : b < K) : Met l yX10_deep (Cond.code yX10_deep cX10_deep 3 (some .int) :: uW) { frames := 0, cells := 0, slots := 0, locals := 0 } (pC z v sc ar [.ref (zad z 27), .int (nI (a)), .int (nI (b))]) (qI z (fun r u => r = nI (max (dp a) (dp b)) ∧ u = (v, sc, ar))) 0 0 (zA z) := by
  refine eM (by decide) (Nat.le_of_ble_eq_true rfl) ?_
  intro pP eE s mM below meth cC ls C hr hlk h hl
  have hx := C.1.1
  have hb := C.1.2.1
  have hl : lv_has ls 3 [(0, .ref (zad z 27)), (1, .int (nI (a))), (2, .int (nI (b)))] := hl
  have ha4 := dpLe2 (hRW a ha).2.2.2.2.2.2
  have hb4 := dpLe2 (hRW b hb2).2.2.2.2.2.2
  refine lv_aload_n hx hb dX10_deep_0 rfl (lv_at hl 0 rfl) ?_
  refine rg_X10_25 C h dX10_deep_1 ?_
  refine lv_iload_n hx hb dX10_deep_4 rfl (lv_at hl 1 rfl) ?_
  refine ldA 33 rfl (j := a) (show a < 40 by omega) (by decide) C h dX10_deep_5 ?_
  refine tI (y := nI (dp a)) (hRW a ha).2.2.2.2.2.1 ?_
  refine lv_aload_n hx hb dX10_deep_6 rfl (lv_at hl 0 rfl) ?_
  refine rg_X10_25 C h dX10_deep_7 ?_
  refine lv_iload_n hx hb dX10_deep_10 rfl (lv_at hl 2 rfl) ?_
  refine ldA 33 rfl (j := b) (show b < 40 by omega) (by decide) C h dX10_deep_11 ?_
  refine tI (y := nI (dp b)) (hRW b hb2).2.2.2.2.2.1 ?_
  refine jN_le (tgt := 24) (a := dp a) (b := dp b) C (by omega) (by omega) dX10_deep_12 (by decide) (fun c_12 => ?_) (fun c_12 => ?_)
  · skip
    refine lv_aload_n hx hb dX10_deep_24 rfl (lv_at hl 0 rfl) ?_
    refine rg_X10_25 C h dX10_deep_25 ?_
    refine lv_iload_n hx hb dX10_deep_28 rfl (lv_at hl 2 rfl) ?_
    refine ldA 33 rfl (j := b) (show b < 40 by omega) (by decide) C h dX10_deep_29 ?_
    refine tI (y := nI (dp b)) (hRW b hb2).2.2.2.2.2.1 ?_
    exact rI C hr hlk h dX10_deep_30 (Nat.le_of_ble_eq_true rfl) (Nat.le_of_ble_eq_true rfl) (⟨by rw [Nat.max_eq_right c_12], rfl⟩)
  · skip
    refine lv_aload_n hx hb dX10_deep_15 rfl (lv_at hl 0 rfl) ?_
    refine rg_X10_25 C h dX10_deep_16 ?_
    refine lv_iload_n hx hb dX10_deep_19 rfl (lv_at hl 1 rfl) ?_
    refine ldA 33 rfl (j := a) (show a < 40 by omega) (by decide) C h dX10_deep_20 ?_
    refine tI (y := nI (dp a)) (hRW a ha).2.2.2.2.2.1 ?_
    refine lv_goto (tgt := 30) hx hb dX10_deep_21 (by decide) ?_
    exact rI C hr hlk h dX10_deep_30 (Nat.le_of_ble_eq_true rfl) (Nat.le_of_ble_eq_true rfl) (⟨by rw [Nat.max_eq_left (by omega)], rfl⟩)
theorem gv_X10_113 : GoodIn uW (wsV RX10 113 RX10 yX10_isWay (Cond.code yX10_isWay cX10_isWay 2 (some .boolean) :: uW)) := gI_V (uW_of (by decide +kernel) rfl) (uW_of (by decide +kernel) rfl) (uW_of (by decide +kernel) rfl) (uW_of (by decide +kernel) rfl) (uW_of (by decide +kernel) rfl)
theorem gv_X10_113_n : okN yX10_isWay 1 := by decide +kernel
theorem gv_X10_116 : GoodIn uW (wsV RX10 116 RX10 yX10_deep (Cond.code yX10_deep cX10_deep 3 (some .int) :: uW)) := gI_V (uW_of (by decide +kernel) rfl) (uW_of (by decide +kernel) rfl) (uW_of (by decide +kernel) rfl) (uW_of (by decide +kernel) rfl) (uW_of (by decide +kernel) rfl)
theorem gv_X10_116_n : okN yX10_deep 2 := by decide +kernel
set_option maxHeartbeats 4000000 in
set_option maxRecDepth 100000 in
theorem r_run (l : Launch) (z : bZ) (v : bV) (sc : Nat → Int32) (ar : Nat → Nat → Int32) (K : Nat) (wt : Nat → Nat → Nat) (dp : Nat → Nat) (x y1 y2 : Int32) (hK : sc 21 = nI K) (hK4 : K ≤ 40) (hRW : RW wt dp K ar) : Met l yX10_run (Cond.code yX10_run cX10_run 4 (some .int) :: uW) { frames := 1, cells := 0, slots := 0, locals := 25 } (pC z v sc ar [.ref (zad z 27), .int (x), .int (y1), .int (y2)]) (qI z (fun r u => (¬ (inR 0 400 x ∧ isW K y1 ∧ isW K y2) ∧ u = (v, va_up sc 20 (nI 1), ar)) ∨ (inR 0 400 x ∧ ∃ j1 j2, (y1 = nI j1 ∧ j1 < K) ∧ (y2 = nI j2 ∧ j2 < K) ∧ (((K = 40 ∨ max (dp j1) (dp j2) = 4) ∧ u = (v, va_up sc 20 (nI 2), ar)) ∨ (K < 40 ∧ max (dp j1) (dp j2) < 4 ∧ r = nI K ∧ u = (v, va_up (va_up sc 20 (nI 0)) 21 (nI (K + 1)), adA (va_up ar 33 (upd (ar 33) K (nI ((1) + (max (dp j1) (dp j2)))))) K (nI 1) x (nI j1) (nI j2) (nI 0))))))) 0 0 (zA z) := by
  refine eM (by decide) (Nat.le_of_ble_eq_true rfl) ?_
  intro pP eE s mM below meth cC ls C hr hlk h hl
  have hx := C.1.1
  have hb := C.1.2.1
  have hl : lv_has ls 4 [(0, .ref (zad z 27)), (1, .int (x)), (2, .int (y1)), (3, .int (y2))] := hl
  refine lv_aload_n hx hb dX10_run_0 rfl (lv_at hl 0 rfl) ?_
  refine lv_iload_n hx hb dX10_run_1 rfl (lv_at hl 1 rfl) ?_
  refine lv_if_lt (tgt := 28) hx hb dX10_run_2 (by decide) (fun c_2 => ?_) (fun c_2 => ?_)
  · skip
    refine lv_iconst (v := nI (1)) hx hb dX10_run_28 (by decide) ?_
    refine lv_goto (tgt := 33) hx hb dX10_run_29 (by decide) ?_
    refine backI h (runV (As := [.int (nI (1))]) (rest := []) C h (r_refuses l z v sc ar 1 (by decide)) gv_X10_105 gv_X10_105_n ⟨rfl, rfl⟩ (r_Ref C h) rfl hl.1 rfl (Nat.le_of_ble_eq_true rfl) dX10_run_33 ⟨Nat.le_of_ble_eq_true rfl, Nat.le_of_ble_eq_true rfl⟩ ⟨Nat.le_of_ble_eq_true rfl, Nat.le_of_ble_eq_true rfl⟩) (fun r_33 v_33 sc_33 ar_33 H locs p_33 h => ?_)
    have h : hH z v (va_up sc 20 (nI (1))) ar s H locs := uEq p_33.2 h
    refine tI (y := nI (1)) p_33.1 ?_
    refine zN_eq (tgt := 41) (a := 1) C (by decide) dX10_run_36 (by decide) (fun q => absurd q (by decide)) (fun _ => ?_)
    refine lv_iconst (v := nI (0)) hx hb dX10_run_39 (by decide) ?_
    exact rI C hr hlk h dX10_run_40 (Nat.le_of_ble_eq_true rfl) (Nat.le_of_ble_eq_true rfl) (Or.inl ⟨fun g => rNo (lo := 0) (hi := 400) (by decide) (by decide) (Or.inl c_2) g.1, rfl⟩)
  · skip
    refine lv_iload_n hx hb dX10_run_5 rfl (lv_at hl 1 rfl) ?_
    refine lv_sipush (v := nI (400)) hx hb dX10_run_6 (by decide) ?_
    refine lv_icmp_gt (tgt := 28) hx hb dX10_run_9 (by decide) (fun c_9 => ?_) (fun c_9 => ?_)
    · skip
      refine lv_iconst (v := nI (1)) hx hb dX10_run_28 (by decide) ?_
      refine lv_goto (tgt := 33) hx hb dX10_run_29 (by decide) ?_
      refine backI h (runV (As := [.int (nI (1))]) (rest := []) C h (r_refuses l z v sc ar 1 (by decide)) gv_X10_105 gv_X10_105_n ⟨rfl, rfl⟩ (r_Ref C h) rfl hl.1 rfl (Nat.le_of_ble_eq_true rfl) dX10_run_33 ⟨Nat.le_of_ble_eq_true rfl, Nat.le_of_ble_eq_true rfl⟩ ⟨Nat.le_of_ble_eq_true rfl, Nat.le_of_ble_eq_true rfl⟩) (fun r_33 v_33 sc_33 ar_33 H locs p_33 h => ?_)
      have h : hH z v (va_up sc 20 (nI (1))) ar s H locs := uEq p_33.2 h
      refine tI (y := nI (1)) p_33.1 ?_
      refine zN_eq (tgt := 41) (a := 1) C (by decide) dX10_run_36 (by decide) (fun q => absurd q (by decide)) (fun _ => ?_)
      refine lv_iconst (v := nI (0)) hx hb dX10_run_39 (by decide) ?_
      exact rI C hr hlk h dX10_run_40 (Nat.le_of_ble_eq_true rfl) (Nat.le_of_ble_eq_true rfl) (Or.inl ⟨fun g => rNo (lo := 0) (hi := 400) (by decide) (by decide) (Or.inr c_9) g.1, rfl⟩)
    · skip
      refine lv_aload_n hx hb dX10_run_12 rfl (lv_at hl 0 rfl) ?_
      refine lv_iload_n hx hb dX10_run_13 rfl (lv_at hl 2 rfl) ?_
      refine backI h (runV (As := [.int (y1)]) (rest := [.ref (zad z 27)]) C h (r_isWay l z v sc ar K y1 hK hK4) gv_X10_113 gv_X10_113_n ⟨rfl, rfl⟩ (r_Ref C h) rfl hl.1 rfl (Nat.le_of_ble_eq_true rfl) dX10_run_14 ⟨Nat.le_of_ble_eq_true rfl, Nat.le_of_ble_eq_true rfl⟩ ⟨Nat.le_of_ble_eq_true rfl, Nat.le_of_ble_eq_true rfl⟩) (fun r_14 v_14 sc_14 ar_14 H locs p_14 h => ?_)
      have h : hH z v sc ar s H locs := uEq p_14.1 h
      rcases p_14.2 with ⟨er_14, ew_14⟩ | ⟨er_14, ew_14⟩
      · skip
        obtain ⟨j1, hj1, rfl⟩ := ew_14
        refine tI (y := nI 1) er_14 ?_
        refine zN_eq (tgt := 28) (a := 1) C (by decide) dX10_run_17 (by decide) (fun q => absurd q (by decide)) (fun _ => ?_)
        refine lv_aload_n hx hb dX10_run_20 rfl (lv_at hl 0 rfl) ?_
        refine lv_iload_n hx hb dX10_run_21 rfl (lv_at hl 3 rfl) ?_
        refine backI h (runV (As := [.int (y2)]) (rest := [.ref (zad z 27)]) C h (r_isWay l z v sc ar K y2 hK hK4) gv_X10_113 gv_X10_113_n ⟨rfl, rfl⟩ (r_Ref C h) rfl hl.1 rfl (Nat.le_of_ble_eq_true rfl) dX10_run_22 ⟨Nat.le_of_ble_eq_true rfl, Nat.le_of_ble_eq_true rfl⟩ ⟨Nat.le_of_ble_eq_true rfl, Nat.le_of_ble_eq_true rfl⟩) (fun r_22 v_22 sc_22 ar_22 H locs p_22 h => ?_)
        have h : hH z v sc ar s H locs := uEq p_22.1 h
        rcases p_22.2 with ⟨er_22, ew_22⟩ | ⟨er_22, ew_22⟩
        · skip
          obtain ⟨j2, hj2, rfl⟩ := ew_22
          refine tI (y := nI 1) er_22 ?_
          refine zN_ne (tgt := 32) (a := 1) C (by decide) dX10_run_25 (by decide) (fun _ => ?_) (fun q => absurd q (by decide))
          refine lv_iconst (v := nI (0)) hx hb dX10_run_32 (by decide) ?_
          refine backI h (runV (As := [.int (nI (0))]) (rest := []) C h (r_refuses l z v sc ar 0 (by decide)) gv_X10_105 gv_X10_105_n ⟨rfl, rfl⟩ (r_Ref C h) rfl hl.1 rfl (Nat.le_of_ble_eq_true rfl) dX10_run_33 ⟨Nat.le_of_ble_eq_true rfl, Nat.le_of_ble_eq_true rfl⟩ ⟨Nat.le_of_ble_eq_true rfl, Nat.le_of_ble_eq_true rfl⟩) (fun r_33 v_33 sc_33 ar_33 H locs p_33 h => ?_)
          have h : hH z v (va_up sc 20 (nI (0))) ar s H locs := uEq p_33.2 h
          refine tI (y := nI (0)) p_33.1 ?_
          refine zN_eq (tgt := 41) (a := 0) C (by decide) dX10_run_36 (by decide) (fun _ => ?_) (fun q => absurd q (by decide))
          have hd1 := dpLe2 (hRW j1 hj1).2.2.2.2.2.2
          have hd2 := dpLe2 (hRW j2 hj2).2.2.2.2.2.2
          have hxg : inR 0 400 x := rIn (lo := 0) (hi := 400) (by decide) (by decide) c_2 (Int32.not_lt.mpr (Int32.not_lt.mp c_9))
          refine lv_aload_n hx hb dX10_run_41 rfl (lv_at hl 0 rfl) ?_
          refine lv_aload_n hx hb dX10_run_42 rfl (lv_at hl 0 rfl) ?_
          refine rg_X10_102 C h dX10_run_43 ?_
          refine tI (y := nI (K)) hK ?_
          refine lv_bipush (v := nI (40)) hx hb dX10_run_46 (by decide) ?_
          refine jN_eq (tgt := 61) (a := K) (b := 40) C (by omega) (by omega) dX10_run_48 (by decide) (fun c_48 => ?_) (fun c_48 => ?_)
          · skip
            refine lv_iconst (v := nI (2)) hx hb dX10_run_61 (by decide) ?_
            refine lv_goto (tgt := 66) hx hb dX10_run_62 (by decide) ?_
            refine backI h (runV (As := [.int (nI (2))]) (rest := []) C h (r_refuses l z v (va_up sc 20 (nI (0))) ar 2 (by decide)) gv_X10_105 gv_X10_105_n ⟨rfl, rfl⟩ (r_Ref C h) rfl hl.1 rfl (Nat.le_of_ble_eq_true rfl) dX10_run_66 ⟨Nat.le_of_ble_eq_true rfl, Nat.le_of_ble_eq_true rfl⟩ ⟨Nat.le_of_ble_eq_true rfl, Nat.le_of_ble_eq_true rfl⟩) (fun r_66 v_66 sc_66 ar_66 H locs p_66 h => ?_)
            rw [va_uu] at p_66
            have h : hH z v (va_up sc 20 (nI (2))) ar s H locs := uEq p_66.2 h
            refine tI (y := nI (1)) p_66.1 ?_
            refine zN_eq (tgt := 74) (a := 1) C (by decide) dX10_run_69 (by decide) (fun q => absurd q (by decide)) (fun _ => ?_)
            refine lv_iconst (v := nI (0)) hx hb dX10_run_72 (by decide) ?_
            exact rI C hr hlk h dX10_run_73 (Nat.le_of_ble_eq_true rfl) (Nat.le_of_ble_eq_true rfl) (Or.inr ⟨hxg, j1, j2, ⟨rfl, hj1⟩, ⟨rfl, hj2⟩, Or.inl ⟨Or.inl c_48, rfl⟩⟩)
          · skip
            refine lv_aload_n hx hb dX10_run_51 rfl (lv_at hl 0 rfl) ?_
            refine lv_iload_n hx hb dX10_run_52 rfl (lv_at hl 2 rfl) ?_
            refine lv_iload_n hx hb dX10_run_53 rfl (lv_at hl 3 rfl) ?_
            refine backI h (runV (As := [.int (nI (j1)), .int (nI (j2))]) (rest := [.ref (zad z 27)]) C h (r_deep l z v (va_up sc 20 (nI (0))) ar K j1 j2 wt dp hK4 hRW hj1 hj2) gv_X10_116 gv_X10_116_n ⟨rfl, rfl⟩ (r_Ref C h) rfl hl.1 rfl (Nat.le_of_ble_eq_true rfl) dX10_run_54 ⟨Nat.le_of_ble_eq_true rfl, Nat.le_of_ble_eq_true rfl⟩ ⟨Nat.le_of_ble_eq_true rfl, Nat.le_of_ble_eq_true rfl⟩) (fun r_54 v_54 sc_54 ar_54 H locs p_54 h => ?_)
            have h : hH z v (va_up sc 20 (nI (0))) ar s H locs := uEq p_54.2 h
            refine tI (y := nI (max (dp j1) (dp j2))) p_54.1 ?_
            refine lv_iconst (v := nI (4)) hx hb dX10_run_57 (by decide) ?_
            refine jN_ne (tgt := 65) (a := max (dp j1) (dp j2)) (b := 4) C (by omega) (by omega) dX10_run_58 (by decide) (fun c_58 => ?_) (fun c_58 => ?_)
            · skip
              refine lv_iconst (v := nI (0)) hx hb dX10_run_65 (by decide) ?_
              refine backI h (runV (As := [.int (nI (0))]) (rest := []) C h (r_refuses l z v (va_up sc 20 (nI (0))) ar 0 (by decide)) gv_X10_105 gv_X10_105_n ⟨rfl, rfl⟩ (r_Ref C h) rfl hl.1 rfl (Nat.le_of_ble_eq_true rfl) dX10_run_66 ⟨Nat.le_of_ble_eq_true rfl, Nat.le_of_ble_eq_true rfl⟩ ⟨Nat.le_of_ble_eq_true rfl, Nat.le_of_ble_eq_true rfl⟩) (fun r_66 v_66 sc_66 ar_66 H locs p_66 h => ?_)
              rw [va_uu] at p_66
              have h : hH z v (va_up sc 20 (nI (0))) ar s H locs := uEq p_66.2 h
              refine tI (y := nI (0)) p_66.1 ?_
              refine zN_eq (tgt := 74) (a := 0) C (by decide) dX10_run_69 (by decide) (fun _ => ?_) (fun q => absurd q (by decide))
              refine lv_aload_n hx hb dX10_run_74 rfl (lv_at hl 0 rfl) ?_
              refine rg_X10_25 C h dX10_run_75 ?_
              refine lv_aload_n hx hb dX10_run_78 rfl (lv_at hl 0 rfl) ?_
              refine rg_X10_102 C h dX10_run_79 ?_
              refine tI (y := nI (K)) hK ?_
              refine lv_iconst (v := nI (1)) hx hb dX10_run_82 (by decide) ?_
              refine lv_aload_n hx hb dX10_run_83 rfl (lv_at hl 0 rfl) ?_
              refine lv_iload_n hx hb dX10_run_84 rfl (lv_at hl 2 rfl) ?_
              refine lv_iload_n hx hb dX10_run_85 rfl (lv_at hl 3 rfl) ?_
              refine backI h (runV (As := [.int (nI (j1)), .int (nI (j2))]) (rest := [.int (nI (1)), .int (nI (K)), .ref (zad z 33)]) C h (r_deep l z v (va_up sc 20 (nI (0))) ar K j1 j2 wt dp hK4 hRW hj1 hj2) gv_X10_116 gv_X10_116_n ⟨rfl, rfl⟩ (r_Ref C h) rfl hl.1 rfl (Nat.le_of_ble_eq_true rfl) dX10_run_86 ⟨Nat.le_of_ble_eq_true rfl, Nat.le_of_ble_eq_true rfl⟩ ⟨Nat.le_of_ble_eq_true rfl, Nat.le_of_ble_eq_true rfl⟩) (fun r_86 v_86 sc_86 ar_86 H locs p_86 h => ?_)
              have h : hH z v (va_up sc 20 (nI (0))) ar s H locs := uEq p_86.2 h
              refine tI (y := nI (max (dp j1) (dp j2))) p_86.1 ?_
              refine lv_iadd hx hb dX10_run_89 ?_
              refine tI (nI_add _ _) ?_
              refine stA 33 rfl (j := K) (x := nI ((1) + (max (dp j1) (dp j2)))) (show K < 40 by omega) (by decide) C h dX10_run_90 (fun H locs h => ?_)
              refine lv_aload_n hx hb dX10_run_91 rfl (lv_at hl 0 rfl) ?_
              refine lv_iconst (v := nI (1)) hx hb dX10_run_92 (by decide) ?_
              refine lv_iload_n hx hb dX10_run_93 rfl (lv_at hl 1 rfl) ?_
              refine lv_iload_n hx hb dX10_run_94 rfl (lv_at hl 2 rfl) ?_
              refine lv_iload_n hx hb dX10_run_95 rfl (lv_at hl 3 rfl) ?_
              refine lv_iconst (v := nI (0)) hx hb dX10_run_96 (by decide) ?_
              refine backI h (runV (As := [.int (nI (1)), .int (x), .int (nI (j1)), .int (nI (j2)), .int (nI (0))]) (rest := []) C h (r_add l z v (va_up sc 20 (nI (0))) (va_up ar 33 (upd (ar 33) (K) (nI ((1) + (max (dp j1) (dp j2)))))) K (nI 1) x (nI j1) (nI j2) (nI 0) hK (by omega)) gv_X10_109 gv_X10_109_n ⟨rfl, rfl⟩ (r_Ref C h) rfl hl.1 rfl (Nat.le_of_ble_eq_true rfl) dX10_run_97 ⟨Nat.le_of_ble_eq_true rfl, Nat.le_of_ble_eq_true rfl⟩ ⟨Nat.le_of_ble_eq_true rfl, Nat.le_of_ble_eq_true rfl⟩) (fun r_97 v_97 sc_97 ar_97 H locs p_97 h => ?_)
              have h : hH z v (va_up (va_up sc 20 (nI (0))) 21 (nI (K + 1))) (adA (va_up ar 33 (upd (ar 33) (K) (nI ((1) + (max (dp j1) (dp j2)))))) K (nI 1) x (nI j1) (nI j2) (nI 0)) s H locs := uEq p_97.2 h
              refine tI (y := nI (K)) p_97.1 ?_
              exact rI C hr hlk h dX10_run_100 (Nat.le_of_ble_eq_true rfl) (Nat.le_of_ble_eq_true rfl) (Or.inr ⟨hxg, j1, j2, ⟨rfl, hj1⟩, ⟨rfl, hj2⟩, Or.inr ⟨by omega, by omega, rfl, rfl⟩⟩)
            · skip
              refine lv_iconst (v := nI (2)) hx hb dX10_run_61 (by decide) ?_
              refine lv_goto (tgt := 66) hx hb dX10_run_62 (by decide) ?_
              refine backI h (runV (As := [.int (nI (2))]) (rest := []) C h (r_refuses l z v (va_up sc 20 (nI (0))) ar 2 (by decide)) gv_X10_105 gv_X10_105_n ⟨rfl, rfl⟩ (r_Ref C h) rfl hl.1 rfl (Nat.le_of_ble_eq_true rfl) dX10_run_66 ⟨Nat.le_of_ble_eq_true rfl, Nat.le_of_ble_eq_true rfl⟩ ⟨Nat.le_of_ble_eq_true rfl, Nat.le_of_ble_eq_true rfl⟩) (fun r_66 v_66 sc_66 ar_66 H locs p_66 h => ?_)
              rw [va_uu] at p_66
              have h : hH z v (va_up sc 20 (nI (2))) ar s H locs := uEq p_66.2 h
              refine tI (y := nI (1)) p_66.1 ?_
              refine zN_eq (tgt := 74) (a := 1) C (by decide) dX10_run_69 (by decide) (fun q => absurd q (by decide)) (fun _ => ?_)
              refine lv_iconst (v := nI (0)) hx hb dX10_run_72 (by decide) ?_
              exact rI C hr hlk h dX10_run_73 (Nat.le_of_ble_eq_true rfl) (Nat.le_of_ble_eq_true rfl) (Or.inr ⟨hxg, j1, j2, ⟨rfl, hj1⟩, ⟨rfl, hj2⟩, Or.inl ⟨Or.inr c_58, rfl⟩⟩)
        · skip
          refine tI (y := nI 0) er_22 ?_
          refine zN_ne (tgt := 32) (a := 0) C (by decide) dX10_run_25 (by decide) (fun q => absurd q (by decide)) (fun _ => ?_)
          refine lv_iconst (v := nI (1)) hx hb dX10_run_28 (by decide) ?_
          refine lv_goto (tgt := 33) hx hb dX10_run_29 (by decide) ?_
          refine backI h (runV (As := [.int (nI (1))]) (rest := []) C h (r_refuses l z v sc ar 1 (by decide)) gv_X10_105 gv_X10_105_n ⟨rfl, rfl⟩ (r_Ref C h) rfl hl.1 rfl (Nat.le_of_ble_eq_true rfl) dX10_run_33 ⟨Nat.le_of_ble_eq_true rfl, Nat.le_of_ble_eq_true rfl⟩ ⟨Nat.le_of_ble_eq_true rfl, Nat.le_of_ble_eq_true rfl⟩) (fun r_33 v_33 sc_33 ar_33 H locs p_33 h => ?_)
          have h : hH z v (va_up sc 20 (nI (1))) ar s H locs := uEq p_33.2 h
          refine tI (y := nI (1)) p_33.1 ?_
          refine zN_eq (tgt := 41) (a := 1) C (by decide) dX10_run_36 (by decide) (fun q => absurd q (by decide)) (fun _ => ?_)
          refine lv_iconst (v := nI (0)) hx hb dX10_run_39 (by decide) ?_
          exact rI C hr hlk h dX10_run_40 (Nat.le_of_ble_eq_true rfl) (Nat.le_of_ble_eq_true rfl) (Or.inl ⟨fun g => ew_22 g.2.2, rfl⟩)
      · skip
        refine tI (y := nI 0) er_14 ?_
        refine zN_eq (tgt := 28) (a := 0) C (by decide) dX10_run_17 (by decide) (fun _ => ?_) (fun q => absurd q (by decide))
        refine lv_iconst (v := nI (1)) hx hb dX10_run_28 (by decide) ?_
        refine lv_goto (tgt := 33) hx hb dX10_run_29 (by decide) ?_
        refine backI h (runV (As := [.int (nI (1))]) (rest := []) C h (r_refuses l z v sc ar 1 (by decide)) gv_X10_105 gv_X10_105_n ⟨rfl, rfl⟩ (r_Ref C h) rfl hl.1 rfl (Nat.le_of_ble_eq_true rfl) dX10_run_33 ⟨Nat.le_of_ble_eq_true rfl, Nat.le_of_ble_eq_true rfl⟩ ⟨Nat.le_of_ble_eq_true rfl, Nat.le_of_ble_eq_true rfl⟩) (fun r_33 v_33 sc_33 ar_33 H locs p_33 h => ?_)
        have h : hH z v (va_up sc 20 (nI (1))) ar s H locs := uEq p_33.2 h
        refine tI (y := nI (1)) p_33.1 ?_
        refine zN_eq (tgt := 41) (a := 1) C (by decide) dX10_run_36 (by decide) (fun q => absurd q (by decide)) (fun _ => ?_)
        refine lv_iconst (v := nI (0)) hx hb dX10_run_39 (by decide) ?_
        exact rI C hr hlk h dX10_run_40 (Nat.le_of_ble_eq_true rfl) (Nat.le_of_ble_eq_true rfl) (Or.inl ⟨fun g => ew_14 g.2.1, rfl⟩)
set_option maxHeartbeats 4000000 in
set_option maxRecDepth 100000 in
theorem r_popular (l : Launch) (z : bZ) (v : bV) (sc : Nat → Int32) (ar : Nat → Nat → Int32) (K : Nat) (wt : Nat → Nat → Nat) (dp : Nat → Nat) (x y1 y2 y3 : Int32) (hK : sc 21 = nI K) (hK4 : K ≤ 40) (hRW : RW wt dp K ar) : Met l yX10_popular (Cond.code yX10_popular cX10_popular 6 (some .int) :: uW) { frames := 1, cells := 0, slots := 0, locals := 25 } (pC z v sc ar [.ref (zad z 27), .int (x), .int (y1), .int (y2), .int (y3)]) (qI z (fun r u => (¬ (inR 1 50 x ∧ isW K y1 ∧ isW K y2 ∧ isW K y3) ∧ u = (v, va_up sc 20 (nI 1), ar)) ∨ (inR 1 50 x ∧ ∃ j1 j2 j3 D, (y1 = nI j1 ∧ j1 < K) ∧ (y2 = nI j2 ∧ j2 < K) ∧ (y3 = nI j3 ∧ j3 < K) ∧ D = max (max (dp j1) (dp j2)) (dp j3) ∧ (((K = 40 ∨ D = 4) ∧ u = (v, va_up sc 20 (nI 2), ar)) ∨ (K < 40 ∧ D < 4 ∧ r = nI K ∧ u = (v, va_up (va_up sc 20 (nI 0)) 21 (nI (K + 1)), adA (va_up ar 33 (upd (ar 33) K (nI ((1) + (D))))) K (nI 2) x (nI j1) (nI j2) (nI j3))))))) 0 0 (zA z) := by
  refine eM (by decide) (Nat.le_of_ble_eq_true rfl) ?_
  intro pP eE s mM below meth cC ls C hr hlk h hl
  have hx := C.1.1
  have hb := C.1.2.1
  have hl : lv_has ls 6 [(0, .ref (zad z 27)), (1, .int (x)), (2, .int (y1)), (3, .int (y2)), (4, .int (y3))] := hl
  refine lv_aload_n hx hb dX10_popular_0 rfl (lv_at hl 0 rfl) ?_
  refine lv_iload_n hx hb dX10_popular_1 rfl (lv_at hl 1 rfl) ?_
  refine lv_iconst (v := nI (1)) hx hb dX10_popular_2 (by decide) ?_
  refine lv_icmp_lt (tgt := 37) hx hb dX10_popular_3 (by decide) (fun c_3 => ?_) (fun c_3 => ?_)
  · skip
    refine lv_iconst (v := nI (1)) hx hb dX10_popular_37 (by decide) ?_
    refine lv_goto (tgt := 42) hx hb dX10_popular_38 (by decide) ?_
    refine backI h (runV (As := [.int (nI (1))]) (rest := []) C h (r_refuses l z v sc ar 1 (by decide)) gv_X10_105 gv_X10_105_n ⟨rfl, rfl⟩ (r_Ref C h) rfl hl.1 rfl (Nat.le_of_ble_eq_true rfl) dX10_popular_42 ⟨Nat.le_of_ble_eq_true rfl, Nat.le_of_ble_eq_true rfl⟩ ⟨Nat.le_of_ble_eq_true rfl, Nat.le_of_ble_eq_true rfl⟩) (fun r_42 v_42 sc_42 ar_42 H locs p_42 h => ?_)
    have h : hH z v (va_up sc 20 (nI (1))) ar s H locs := uEq p_42.2 h
    refine tI (y := nI (1)) p_42.1 ?_
    refine zN_eq (tgt := 50) (a := 1) C (by decide) dX10_popular_45 (by decide) (fun q => absurd q (by decide)) (fun _ => ?_)
    refine lv_iconst (v := nI (0)) hx hb dX10_popular_48 (by decide) ?_
    exact rI C hr hlk h dX10_popular_49 (Nat.le_of_ble_eq_true rfl) (Nat.le_of_ble_eq_true rfl) (Or.inl ⟨fun g => rNo (lo := 1) (hi := 50) (by decide) (by decide) (Or.inl c_3) g.1, rfl⟩)
  · skip
    refine lv_iload_n hx hb dX10_popular_6 rfl (lv_at hl 1 rfl) ?_
    refine lv_bipush (v := nI (50)) hx hb dX10_popular_7 (by decide) ?_
    refine lv_icmp_gt (tgt := 37) hx hb dX10_popular_9 (by decide) (fun c_9 => ?_) (fun c_9 => ?_)
    · skip
      refine lv_iconst (v := nI (1)) hx hb dX10_popular_37 (by decide) ?_
      refine lv_goto (tgt := 42) hx hb dX10_popular_38 (by decide) ?_
      refine backI h (runV (As := [.int (nI (1))]) (rest := []) C h (r_refuses l z v sc ar 1 (by decide)) gv_X10_105 gv_X10_105_n ⟨rfl, rfl⟩ (r_Ref C h) rfl hl.1 rfl (Nat.le_of_ble_eq_true rfl) dX10_popular_42 ⟨Nat.le_of_ble_eq_true rfl, Nat.le_of_ble_eq_true rfl⟩ ⟨Nat.le_of_ble_eq_true rfl, Nat.le_of_ble_eq_true rfl⟩) (fun r_42 v_42 sc_42 ar_42 H locs p_42 h => ?_)
      have h : hH z v (va_up sc 20 (nI (1))) ar s H locs := uEq p_42.2 h
      refine tI (y := nI (1)) p_42.1 ?_
      refine zN_eq (tgt := 50) (a := 1) C (by decide) dX10_popular_45 (by decide) (fun q => absurd q (by decide)) (fun _ => ?_)
      refine lv_iconst (v := nI (0)) hx hb dX10_popular_48 (by decide) ?_
      exact rI C hr hlk h dX10_popular_49 (Nat.le_of_ble_eq_true rfl) (Nat.le_of_ble_eq_true rfl) (Or.inl ⟨fun g => rNo (lo := 1) (hi := 50) (by decide) (by decide) (Or.inr c_9) g.1, rfl⟩)
    · skip
      refine lv_aload_n hx hb dX10_popular_12 rfl (lv_at hl 0 rfl) ?_
      refine lv_iload_n hx hb dX10_popular_13 rfl (lv_at hl 2 rfl) ?_
      refine backI h (runV (As := [.int (y1)]) (rest := [.ref (zad z 27)]) C h (r_isWay l z v sc ar K y1 hK hK4) gv_X10_113 gv_X10_113_n ⟨rfl, rfl⟩ (r_Ref C h) rfl hl.1 rfl (Nat.le_of_ble_eq_true rfl) dX10_popular_14 ⟨Nat.le_of_ble_eq_true rfl, Nat.le_of_ble_eq_true rfl⟩ ⟨Nat.le_of_ble_eq_true rfl, Nat.le_of_ble_eq_true rfl⟩) (fun r_14 v_14 sc_14 ar_14 H locs p_14 h => ?_)
      have h : hH z v sc ar s H locs := uEq p_14.1 h
      rcases p_14.2 with ⟨er_14, ew_14⟩ | ⟨er_14, ew_14⟩
      · skip
        obtain ⟨j1, hj1, rfl⟩ := ew_14
        refine tI (y := nI 1) er_14 ?_
        refine zN_eq (tgt := 37) (a := 1) C (by decide) dX10_popular_17 (by decide) (fun q => absurd q (by decide)) (fun _ => ?_)
        refine lv_aload_n hx hb dX10_popular_20 rfl (lv_at hl 0 rfl) ?_
        refine lv_iload_n hx hb dX10_popular_21 rfl (lv_at hl 3 rfl) ?_
        refine backI h (runV (As := [.int (y2)]) (rest := [.ref (zad z 27)]) C h (r_isWay l z v sc ar K y2 hK hK4) gv_X10_113 gv_X10_113_n ⟨rfl, rfl⟩ (r_Ref C h) rfl hl.1 rfl (Nat.le_of_ble_eq_true rfl) dX10_popular_22 ⟨Nat.le_of_ble_eq_true rfl, Nat.le_of_ble_eq_true rfl⟩ ⟨Nat.le_of_ble_eq_true rfl, Nat.le_of_ble_eq_true rfl⟩) (fun r_22 v_22 sc_22 ar_22 H locs p_22 h => ?_)
        have h : hH z v sc ar s H locs := uEq p_22.1 h
        rcases p_22.2 with ⟨er_22, ew_22⟩ | ⟨er_22, ew_22⟩
        · skip
          obtain ⟨j2, hj2, rfl⟩ := ew_22
          refine tI (y := nI 1) er_22 ?_
          refine zN_eq (tgt := 37) (a := 1) C (by decide) dX10_popular_25 (by decide) (fun q => absurd q (by decide)) (fun _ => ?_)
          refine lv_aload_n hx hb dX10_popular_28 rfl (lv_at hl 0 rfl) ?_
          refine lv_iload hx hb dX10_popular_29 (lv_at hl 4 rfl) ?_
          refine backI h (runV (As := [.int (y3)]) (rest := [.ref (zad z 27)]) C h (r_isWay l z v sc ar K y3 hK hK4) gv_X10_113 gv_X10_113_n ⟨rfl, rfl⟩ (r_Ref C h) rfl hl.1 rfl (Nat.le_of_ble_eq_true rfl) dX10_popular_31 ⟨Nat.le_of_ble_eq_true rfl, Nat.le_of_ble_eq_true rfl⟩ ⟨Nat.le_of_ble_eq_true rfl, Nat.le_of_ble_eq_true rfl⟩) (fun r_31 v_31 sc_31 ar_31 H locs p_31 h => ?_)
          have h : hH z v sc ar s H locs := uEq p_31.1 h
          rcases p_31.2 with ⟨er_31, ew_31⟩ | ⟨er_31, ew_31⟩
          · skip
            obtain ⟨j3, hj3, rfl⟩ := ew_31
            refine tI (y := nI 1) er_31 ?_
            refine zN_ne (tgt := 41) (a := 1) C (by decide) dX10_popular_34 (by decide) (fun _ => ?_) (fun q => absurd q (by decide))
            refine lv_iconst (v := nI (0)) hx hb dX10_popular_41 (by decide) ?_
            refine backI h (runV (As := [.int (nI (0))]) (rest := []) C h (r_refuses l z v sc ar 0 (by decide)) gv_X10_105 gv_X10_105_n ⟨rfl, rfl⟩ (r_Ref C h) rfl hl.1 rfl (Nat.le_of_ble_eq_true rfl) dX10_popular_42 ⟨Nat.le_of_ble_eq_true rfl, Nat.le_of_ble_eq_true rfl⟩ ⟨Nat.le_of_ble_eq_true rfl, Nat.le_of_ble_eq_true rfl⟩) (fun r_42 v_42 sc_42 ar_42 H locs p_42 h => ?_)
            have h : hH z v (va_up sc 20 (nI (0))) ar s H locs := uEq p_42.2 h
            refine tI (y := nI (0)) p_42.1 ?_
            refine zN_eq (tgt := 50) (a := 0) C (by decide) dX10_popular_45 (by decide) (fun _ => ?_) (fun q => absurd q (by decide))
            have hd1 := dpLe2 (hRW j1 hj1).2.2.2.2.2.2
            have hd2 := dpLe2 (hRW j2 hj2).2.2.2.2.2.2
            have hd3 := dpLe2 (hRW j3 hj3).2.2.2.2.2.2
            have hxg : inR 1 50 x := rIn (lo := 1) (hi := 50) (by decide) (by decide) c_3 (Int32.not_lt.mpr (Int32.not_lt.mp c_9))
            refine lv_aload_n hx hb dX10_popular_50 rfl (lv_at hl 0 rfl) ?_
            refine lv_iload_n hx hb dX10_popular_51 rfl (lv_at hl 2 rfl) ?_
            refine lv_iload_n hx hb dX10_popular_52 rfl (lv_at hl 3 rfl) ?_
            refine backI h (runV (As := [.int (nI (j1)), .int (nI (j2))]) (rest := []) C h (r_deep l z v (va_up sc 20 (nI (0))) ar K j1 j2 wt dp hK4 hRW hj1 hj2) gv_X10_116 gv_X10_116_n ⟨rfl, rfl⟩ (r_Ref C h) rfl hl.1 rfl (Nat.le_of_ble_eq_true rfl) dX10_popular_53 ⟨Nat.le_of_ble_eq_true rfl, Nat.le_of_ble_eq_true rfl⟩ ⟨Nat.le_of_ble_eq_true rfl, Nat.le_of_ble_eq_true rfl⟩) (fun r_53 v_53 sc_53 ar_53 H locs p_53 h => ?_)
            have h : hH z v (va_up sc 20 (nI (0))) ar s H locs := uEq p_53.2 h
            refine tI (y := nI (max (dp j1) (dp j2))) p_53.1 ?_
            refine lv_aload_n hx hb dX10_popular_56 rfl (lv_at hl 0 rfl) ?_
            refine rg_X10_25 C h dX10_popular_57 ?_
            refine lv_iload hx hb dX10_popular_60 (lv_at hl 4 rfl) ?_
            refine ldA 33 rfl (j := j3) (show j3 < 40 by omega) (by decide) C h dX10_popular_62 ?_
            refine tI (y := nI (dp j3)) (hRW j3 hj3).2.2.2.2.2.1 ?_
            refine jN_le (tgt := 75) (a := max (dp j1) (dp j2)) (b := dp j3) C (by omega) (by omega) dX10_popular_63 (by decide) (fun c_63 => ?_) (fun c_63 => ?_)
            · skip
              refine lv_aload_n hx hb dX10_popular_75 rfl (lv_at hl 0 rfl) ?_
              refine rg_X10_25 C h dX10_popular_76 ?_
              refine lv_iload hx hb dX10_popular_79 (lv_at hl 4 rfl) ?_
              refine ldA 33 rfl (j := j3) (show j3 < 40 by omega) (by decide) C h dX10_popular_81 ?_
              refine tI (y := nI (dp j3)) (hRW j3 hj3).2.2.2.2.2.1 ?_
              refine lv_istore (lv' := [(5, .int (nI (dp j3))), (0, .ref (zad z 27)), (1, .int (x)), (2, .int (nI (j1))), (3, .int (nI (j2))), (4, .int (nI (j3)))]) hx hb dX10_popular_82 hl (by decide) rfl (fun ls hl => ?_)
              refine lv_aload_n hx hb dX10_popular_84 rfl (lv_at hl 1 rfl) ?_
              refine lv_aload_n hx hb dX10_popular_85 rfl (lv_at hl 1 rfl) ?_
              refine rg_X10_102 C h dX10_popular_86 ?_
              refine tI (y := nI (K)) hK ?_
              refine lv_bipush (v := nI (40)) hx hb dX10_popular_89 (by decide) ?_
              refine jN_eq (tgt := 100) (a := K) (b := 40) C (by omega) (by omega) dX10_popular_91 (by decide) (fun c_91 => ?_) (fun c_91 => ?_)
              · skip
                refine lv_iconst (v := nI (2)) hx hb dX10_popular_100 (by decide) ?_
                refine lv_goto (tgt := 105) hx hb dX10_popular_101 (by decide) ?_
                refine backI h (runV (As := [.int (nI (2))]) (rest := []) C h (r_refuses l z v (va_up sc 20 (nI (0))) ar 2 (by decide)) gv_X10_105 gv_X10_105_n ⟨rfl, rfl⟩ (r_Ref C h) rfl hl.1 rfl (Nat.le_of_ble_eq_true rfl) dX10_popular_105 ⟨Nat.le_of_ble_eq_true rfl, Nat.le_of_ble_eq_true rfl⟩ ⟨Nat.le_of_ble_eq_true rfl, Nat.le_of_ble_eq_true rfl⟩) (fun r_105 v_105 sc_105 ar_105 H locs p_105 h => ?_)
                rw [va_uu] at p_105
                have h : hH z v (va_up sc 20 (nI (2))) ar s H locs := uEq p_105.2 h
                refine tI (y := nI (1)) p_105.1 ?_
                refine zN_eq (tgt := 113) (a := 1) C (by decide) dX10_popular_108 (by decide) (fun q => absurd q (by decide)) (fun _ => ?_)
                refine lv_iconst (v := nI (0)) hx hb dX10_popular_111 (by decide) ?_
                exact rI C hr hlk h dX10_popular_112 (Nat.le_of_ble_eq_true rfl) (Nat.le_of_ble_eq_true rfl) (Or.inr ⟨hxg, j1, j2, j3, dp j3, ⟨rfl, hj1⟩, ⟨rfl, hj2⟩, ⟨rfl, hj3⟩, (by rw [Nat.max_eq_right c_63]), Or.inl ⟨Or.inl c_91, rfl⟩⟩)
              · skip
                refine lv_iload hx hb dX10_popular_94 (lv_at hl 0 rfl) ?_
                refine lv_iconst (v := nI (4)) hx hb dX10_popular_96 (by decide) ?_
                refine jN_ne (tgt := 104) (a := dp j3) (b := 4) C (by omega) (by omega) dX10_popular_97 (by decide) (fun c_97 => ?_) (fun c_97 => ?_)
                · skip
                  refine lv_iconst (v := nI (0)) hx hb dX10_popular_104 (by decide) ?_
                  refine backI h (runV (As := [.int (nI (0))]) (rest := []) C h (r_refuses l z v (va_up sc 20 (nI (0))) ar 0 (by decide)) gv_X10_105 gv_X10_105_n ⟨rfl, rfl⟩ (r_Ref C h) rfl hl.1 rfl (Nat.le_of_ble_eq_true rfl) dX10_popular_105 ⟨Nat.le_of_ble_eq_true rfl, Nat.le_of_ble_eq_true rfl⟩ ⟨Nat.le_of_ble_eq_true rfl, Nat.le_of_ble_eq_true rfl⟩) (fun r_105 v_105 sc_105 ar_105 H locs p_105 h => ?_)
                  rw [va_uu] at p_105
                  have h : hH z v (va_up sc 20 (nI (0))) ar s H locs := uEq p_105.2 h
                  refine tI (y := nI (0)) p_105.1 ?_
                  refine zN_eq (tgt := 113) (a := 0) C (by decide) dX10_popular_108 (by decide) (fun _ => ?_) (fun q => absurd q (by decide))
                  refine lv_aload_n hx hb dX10_popular_113 rfl (lv_at hl 1 rfl) ?_
                  refine rg_X10_25 C h dX10_popular_114 ?_
                  refine lv_aload_n hx hb dX10_popular_117 rfl (lv_at hl 1 rfl) ?_
                  refine rg_X10_102 C h dX10_popular_118 ?_
                  refine tI (y := nI (K)) hK ?_
                  refine lv_iconst (v := nI (1)) hx hb dX10_popular_121 (by decide) ?_
                  refine lv_iload hx hb dX10_popular_122 (lv_at hl 0 rfl) ?_
                  refine lv_iadd hx hb dX10_popular_124 ?_
                  refine tI (nI_add _ _) ?_
                  refine stA 33 rfl (j := K) (x := nI ((1) + (dp j3))) (show K < 40 by omega) (by decide) C h dX10_popular_125 (fun H locs h => ?_)
                  refine lv_aload_n hx hb dX10_popular_126 rfl (lv_at hl 1 rfl) ?_
                  refine lv_iconst (v := nI (2)) hx hb dX10_popular_127 (by decide) ?_
                  refine lv_iload_n hx hb dX10_popular_128 rfl (lv_at hl 2 rfl) ?_
                  refine lv_iload_n hx hb dX10_popular_129 rfl (lv_at hl 3 rfl) ?_
                  refine lv_iload_n hx hb dX10_popular_130 rfl (lv_at hl 4 rfl) ?_
                  refine lv_iload hx hb dX10_popular_131 (lv_at hl 5 rfl) ?_
                  refine backI h (runV (As := [.int (nI (2)), .int (x), .int (nI (j1)), .int (nI (j2)), .int (nI (j3))]) (rest := []) C h (r_add l z v (va_up sc 20 (nI (0))) (va_up ar 33 (upd (ar 33) (K) (nI ((1) + (dp j3))))) K (nI 2) x (nI j1) (nI j2) (nI j3) hK (by omega)) gv_X10_109 gv_X10_109_n ⟨rfl, rfl⟩ (r_Ref C h) rfl hl.1 rfl (Nat.le_of_ble_eq_true rfl) dX10_popular_133 ⟨Nat.le_of_ble_eq_true rfl, Nat.le_of_ble_eq_true rfl⟩ ⟨Nat.le_of_ble_eq_true rfl, Nat.le_of_ble_eq_true rfl⟩) (fun r_133 v_133 sc_133 ar_133 H locs p_133 h => ?_)
                  have h : hH z v (va_up (va_up sc 20 (nI (0))) 21 (nI (K + 1))) (adA (va_up ar 33 (upd (ar 33) (K) (nI ((1) + (dp j3))))) K (nI 2) x (nI j1) (nI j2) (nI j3)) s H locs := uEq p_133.2 h
                  refine tI (y := nI (K)) p_133.1 ?_
                  exact rI C hr hlk h dX10_popular_136 (Nat.le_of_ble_eq_true rfl) (Nat.le_of_ble_eq_true rfl) (Or.inr ⟨hxg, j1, j2, j3, dp j3, ⟨rfl, hj1⟩, ⟨rfl, hj2⟩, ⟨rfl, hj3⟩, (by rw [Nat.max_eq_right c_63]), Or.inr ⟨by omega, by omega, rfl, rfl⟩⟩)
                · skip
                  refine lv_iconst (v := nI (2)) hx hb dX10_popular_100 (by decide) ?_
                  refine lv_goto (tgt := 105) hx hb dX10_popular_101 (by decide) ?_
                  refine backI h (runV (As := [.int (nI (2))]) (rest := []) C h (r_refuses l z v (va_up sc 20 (nI (0))) ar 2 (by decide)) gv_X10_105 gv_X10_105_n ⟨rfl, rfl⟩ (r_Ref C h) rfl hl.1 rfl (Nat.le_of_ble_eq_true rfl) dX10_popular_105 ⟨Nat.le_of_ble_eq_true rfl, Nat.le_of_ble_eq_true rfl⟩ ⟨Nat.le_of_ble_eq_true rfl, Nat.le_of_ble_eq_true rfl⟩) (fun r_105 v_105 sc_105 ar_105 H locs p_105 h => ?_)
                  rw [va_uu] at p_105
                  have h : hH z v (va_up sc 20 (nI (2))) ar s H locs := uEq p_105.2 h
                  refine tI (y := nI (1)) p_105.1 ?_
                  refine zN_eq (tgt := 113) (a := 1) C (by decide) dX10_popular_108 (by decide) (fun q => absurd q (by decide)) (fun _ => ?_)
                  refine lv_iconst (v := nI (0)) hx hb dX10_popular_111 (by decide) ?_
                  exact rI C hr hlk h dX10_popular_112 (Nat.le_of_ble_eq_true rfl) (Nat.le_of_ble_eq_true rfl) (Or.inr ⟨hxg, j1, j2, j3, dp j3, ⟨rfl, hj1⟩, ⟨rfl, hj2⟩, ⟨rfl, hj3⟩, (by rw [Nat.max_eq_right c_63]), Or.inl ⟨Or.inr c_97, rfl⟩⟩)
            · skip
              refine lv_aload_n hx hb dX10_popular_66 rfl (lv_at hl 0 rfl) ?_
              refine lv_iload_n hx hb dX10_popular_67 rfl (lv_at hl 2 rfl) ?_
              refine lv_iload_n hx hb dX10_popular_68 rfl (lv_at hl 3 rfl) ?_
              refine backI h (runV (As := [.int (nI (j1)), .int (nI (j2))]) (rest := []) C h (r_deep l z v (va_up sc 20 (nI (0))) ar K j1 j2 wt dp hK4 hRW hj1 hj2) gv_X10_116 gv_X10_116_n ⟨rfl, rfl⟩ (r_Ref C h) rfl hl.1 rfl (Nat.le_of_ble_eq_true rfl) dX10_popular_69 ⟨Nat.le_of_ble_eq_true rfl, Nat.le_of_ble_eq_true rfl⟩ ⟨Nat.le_of_ble_eq_true rfl, Nat.le_of_ble_eq_true rfl⟩) (fun r_69 v_69 sc_69 ar_69 H locs p_69 h => ?_)
              have h : hH z v (va_up sc 20 (nI (0))) ar s H locs := uEq p_69.2 h
              refine tI (y := nI (max (dp j1) (dp j2))) p_69.1 ?_
              refine lv_goto (tgt := 82) hx hb dX10_popular_72 (by decide) ?_
              refine lv_istore (lv' := [(5, .int (nI (max (dp j1) (dp j2)))), (0, .ref (zad z 27)), (1, .int (x)), (2, .int (nI (j1))), (3, .int (nI (j2))), (4, .int (nI (j3)))]) hx hb dX10_popular_82 hl (by decide) rfl (fun ls hl => ?_)
              refine lv_aload_n hx hb dX10_popular_84 rfl (lv_at hl 1 rfl) ?_
              refine lv_aload_n hx hb dX10_popular_85 rfl (lv_at hl 1 rfl) ?_
              refine rg_X10_102 C h dX10_popular_86 ?_
              refine tI (y := nI (K)) hK ?_
              refine lv_bipush (v := nI (40)) hx hb dX10_popular_89 (by decide) ?_
              refine jN_eq (tgt := 100) (a := K) (b := 40) C (by omega) (by omega) dX10_popular_91 (by decide) (fun c_91 => ?_) (fun c_91 => ?_)
              · skip
                refine lv_iconst (v := nI (2)) hx hb dX10_popular_100 (by decide) ?_
                refine lv_goto (tgt := 105) hx hb dX10_popular_101 (by decide) ?_
                refine backI h (runV (As := [.int (nI (2))]) (rest := []) C h (r_refuses l z v (va_up sc 20 (nI (0))) ar 2 (by decide)) gv_X10_105 gv_X10_105_n ⟨rfl, rfl⟩ (r_Ref C h) rfl hl.1 rfl (Nat.le_of_ble_eq_true rfl) dX10_popular_105 ⟨Nat.le_of_ble_eq_true rfl, Nat.le_of_ble_eq_true rfl⟩ ⟨Nat.le_of_ble_eq_true rfl, Nat.le_of_ble_eq_true rfl⟩) (fun r_105 v_105 sc_105 ar_105 H locs p_105 h => ?_)
                rw [va_uu] at p_105
                have h : hH z v (va_up sc 20 (nI (2))) ar s H locs := uEq p_105.2 h
                refine tI (y := nI (1)) p_105.1 ?_
                refine zN_eq (tgt := 113) (a := 1) C (by decide) dX10_popular_108 (by decide) (fun q => absurd q (by decide)) (fun _ => ?_)
                refine lv_iconst (v := nI (0)) hx hb dX10_popular_111 (by decide) ?_
                exact rI C hr hlk h dX10_popular_112 (Nat.le_of_ble_eq_true rfl) (Nat.le_of_ble_eq_true rfl) (Or.inr ⟨hxg, j1, j2, j3, max (dp j1) (dp j2), ⟨rfl, hj1⟩, ⟨rfl, hj2⟩, ⟨rfl, hj3⟩, (by rw [Nat.max_eq_left (Nat.le_of_lt c_63)]), Or.inl ⟨Or.inl c_91, rfl⟩⟩)
              · skip
                refine lv_iload hx hb dX10_popular_94 (lv_at hl 0 rfl) ?_
                refine lv_iconst (v := nI (4)) hx hb dX10_popular_96 (by decide) ?_
                refine jN_ne (tgt := 104) (a := max (dp j1) (dp j2)) (b := 4) C (by omega) (by omega) dX10_popular_97 (by decide) (fun c_97 => ?_) (fun c_97 => ?_)
                · skip
                  refine lv_iconst (v := nI (0)) hx hb dX10_popular_104 (by decide) ?_
                  refine backI h (runV (As := [.int (nI (0))]) (rest := []) C h (r_refuses l z v (va_up sc 20 (nI (0))) ar 0 (by decide)) gv_X10_105 gv_X10_105_n ⟨rfl, rfl⟩ (r_Ref C h) rfl hl.1 rfl (Nat.le_of_ble_eq_true rfl) dX10_popular_105 ⟨Nat.le_of_ble_eq_true rfl, Nat.le_of_ble_eq_true rfl⟩ ⟨Nat.le_of_ble_eq_true rfl, Nat.le_of_ble_eq_true rfl⟩) (fun r_105 v_105 sc_105 ar_105 H locs p_105 h => ?_)
                  rw [va_uu] at p_105
                  have h : hH z v (va_up sc 20 (nI (0))) ar s H locs := uEq p_105.2 h
                  refine tI (y := nI (0)) p_105.1 ?_
                  refine zN_eq (tgt := 113) (a := 0) C (by decide) dX10_popular_108 (by decide) (fun _ => ?_) (fun q => absurd q (by decide))
                  refine lv_aload_n hx hb dX10_popular_113 rfl (lv_at hl 1 rfl) ?_
                  refine rg_X10_25 C h dX10_popular_114 ?_
                  refine lv_aload_n hx hb dX10_popular_117 rfl (lv_at hl 1 rfl) ?_
                  refine rg_X10_102 C h dX10_popular_118 ?_
                  refine tI (y := nI (K)) hK ?_
                  refine lv_iconst (v := nI (1)) hx hb dX10_popular_121 (by decide) ?_
                  refine lv_iload hx hb dX10_popular_122 (lv_at hl 0 rfl) ?_
                  refine lv_iadd hx hb dX10_popular_124 ?_
                  refine tI (nI_add _ _) ?_
                  refine stA 33 rfl (j := K) (x := nI ((1) + (max (dp j1) (dp j2)))) (show K < 40 by omega) (by decide) C h dX10_popular_125 (fun H locs h => ?_)
                  refine lv_aload_n hx hb dX10_popular_126 rfl (lv_at hl 1 rfl) ?_
                  refine lv_iconst (v := nI (2)) hx hb dX10_popular_127 (by decide) ?_
                  refine lv_iload_n hx hb dX10_popular_128 rfl (lv_at hl 2 rfl) ?_
                  refine lv_iload_n hx hb dX10_popular_129 rfl (lv_at hl 3 rfl) ?_
                  refine lv_iload_n hx hb dX10_popular_130 rfl (lv_at hl 4 rfl) ?_
                  refine lv_iload hx hb dX10_popular_131 (lv_at hl 5 rfl) ?_
                  refine backI h (runV (As := [.int (nI (2)), .int (x), .int (nI (j1)), .int (nI (j2)), .int (nI (j3))]) (rest := []) C h (r_add l z v (va_up sc 20 (nI (0))) (va_up ar 33 (upd (ar 33) (K) (nI ((1) + (max (dp j1) (dp j2)))))) K (nI 2) x (nI j1) (nI j2) (nI j3) hK (by omega)) gv_X10_109 gv_X10_109_n ⟨rfl, rfl⟩ (r_Ref C h) rfl hl.1 rfl (Nat.le_of_ble_eq_true rfl) dX10_popular_133 ⟨Nat.le_of_ble_eq_true rfl, Nat.le_of_ble_eq_true rfl⟩ ⟨Nat.le_of_ble_eq_true rfl, Nat.le_of_ble_eq_true rfl⟩) (fun r_133 v_133 sc_133 ar_133 H locs p_133 h => ?_)
                  have h : hH z v (va_up (va_up sc 20 (nI (0))) 21 (nI (K + 1))) (adA (va_up ar 33 (upd (ar 33) (K) (nI ((1) + (max (dp j1) (dp j2)))))) K (nI 2) x (nI j1) (nI j2) (nI j3)) s H locs := uEq p_133.2 h
                  refine tI (y := nI (K)) p_133.1 ?_
                  exact rI C hr hlk h dX10_popular_136 (Nat.le_of_ble_eq_true rfl) (Nat.le_of_ble_eq_true rfl) (Or.inr ⟨hxg, j1, j2, j3, max (dp j1) (dp j2), ⟨rfl, hj1⟩, ⟨rfl, hj2⟩, ⟨rfl, hj3⟩, (by rw [Nat.max_eq_left (Nat.le_of_lt c_63)]), Or.inr ⟨by omega, by omega, rfl, rfl⟩⟩)
                · skip
                  refine lv_iconst (v := nI (2)) hx hb dX10_popular_100 (by decide) ?_
                  refine lv_goto (tgt := 105) hx hb dX10_popular_101 (by decide) ?_
                  refine backI h (runV (As := [.int (nI (2))]) (rest := []) C h (r_refuses l z v (va_up sc 20 (nI (0))) ar 2 (by decide)) gv_X10_105 gv_X10_105_n ⟨rfl, rfl⟩ (r_Ref C h) rfl hl.1 rfl (Nat.le_of_ble_eq_true rfl) dX10_popular_105 ⟨Nat.le_of_ble_eq_true rfl, Nat.le_of_ble_eq_true rfl⟩ ⟨Nat.le_of_ble_eq_true rfl, Nat.le_of_ble_eq_true rfl⟩) (fun r_105 v_105 sc_105 ar_105 H locs p_105 h => ?_)
                  rw [va_uu] at p_105
                  have h : hH z v (va_up sc 20 (nI (2))) ar s H locs := uEq p_105.2 h
                  refine tI (y := nI (1)) p_105.1 ?_
                  refine zN_eq (tgt := 113) (a := 1) C (by decide) dX10_popular_108 (by decide) (fun q => absurd q (by decide)) (fun _ => ?_)
                  refine lv_iconst (v := nI (0)) hx hb dX10_popular_111 (by decide) ?_
                  exact rI C hr hlk h dX10_popular_112 (Nat.le_of_ble_eq_true rfl) (Nat.le_of_ble_eq_true rfl) (Or.inr ⟨hxg, j1, j2, j3, max (dp j1) (dp j2), ⟨rfl, hj1⟩, ⟨rfl, hj2⟩, ⟨rfl, hj3⟩, (by rw [Nat.max_eq_left (Nat.le_of_lt c_63)]), Or.inl ⟨Or.inr c_97, rfl⟩⟩)
          · skip
            refine tI (y := nI 0) er_31 ?_
            refine zN_ne (tgt := 41) (a := 0) C (by decide) dX10_popular_34 (by decide) (fun q => absurd q (by decide)) (fun _ => ?_)
            refine lv_iconst (v := nI (1)) hx hb dX10_popular_37 (by decide) ?_
            refine lv_goto (tgt := 42) hx hb dX10_popular_38 (by decide) ?_
            refine backI h (runV (As := [.int (nI (1))]) (rest := []) C h (r_refuses l z v sc ar 1 (by decide)) gv_X10_105 gv_X10_105_n ⟨rfl, rfl⟩ (r_Ref C h) rfl hl.1 rfl (Nat.le_of_ble_eq_true rfl) dX10_popular_42 ⟨Nat.le_of_ble_eq_true rfl, Nat.le_of_ble_eq_true rfl⟩ ⟨Nat.le_of_ble_eq_true rfl, Nat.le_of_ble_eq_true rfl⟩) (fun r_42 v_42 sc_42 ar_42 H locs p_42 h => ?_)
            have h : hH z v (va_up sc 20 (nI (1))) ar s H locs := uEq p_42.2 h
            refine tI (y := nI (1)) p_42.1 ?_
            refine zN_eq (tgt := 50) (a := 1) C (by decide) dX10_popular_45 (by decide) (fun q => absurd q (by decide)) (fun _ => ?_)
            refine lv_iconst (v := nI (0)) hx hb dX10_popular_48 (by decide) ?_
            exact rI C hr hlk h dX10_popular_49 (Nat.le_of_ble_eq_true rfl) (Nat.le_of_ble_eq_true rfl) (Or.inl ⟨fun g => ew_31 g.2.2.2, rfl⟩)
        · skip
          refine tI (y := nI 0) er_22 ?_
          refine zN_eq (tgt := 37) (a := 0) C (by decide) dX10_popular_25 (by decide) (fun _ => ?_) (fun q => absurd q (by decide))
          refine lv_iconst (v := nI (1)) hx hb dX10_popular_37 (by decide) ?_
          refine lv_goto (tgt := 42) hx hb dX10_popular_38 (by decide) ?_
          refine backI h (runV (As := [.int (nI (1))]) (rest := []) C h (r_refuses l z v sc ar 1 (by decide)) gv_X10_105 gv_X10_105_n ⟨rfl, rfl⟩ (r_Ref C h) rfl hl.1 rfl (Nat.le_of_ble_eq_true rfl) dX10_popular_42 ⟨Nat.le_of_ble_eq_true rfl, Nat.le_of_ble_eq_true rfl⟩ ⟨Nat.le_of_ble_eq_true rfl, Nat.le_of_ble_eq_true rfl⟩) (fun r_42 v_42 sc_42 ar_42 H locs p_42 h => ?_)
          have h : hH z v (va_up sc 20 (nI (1))) ar s H locs := uEq p_42.2 h
          refine tI (y := nI (1)) p_42.1 ?_
          refine zN_eq (tgt := 50) (a := 1) C (by decide) dX10_popular_45 (by decide) (fun q => absurd q (by decide)) (fun _ => ?_)
          refine lv_iconst (v := nI (0)) hx hb dX10_popular_48 (by decide) ?_
          exact rI C hr hlk h dX10_popular_49 (Nat.le_of_ble_eq_true rfl) (Nat.le_of_ble_eq_true rfl) (Or.inl ⟨fun g => ew_22 g.2.2.1, rfl⟩)
      · skip
        refine tI (y := nI 0) er_14 ?_
        refine zN_eq (tgt := 37) (a := 0) C (by decide) dX10_popular_17 (by decide) (fun _ => ?_) (fun q => absurd q (by decide))
        refine lv_iconst (v := nI (1)) hx hb dX10_popular_37 (by decide) ?_
        refine lv_goto (tgt := 42) hx hb dX10_popular_38 (by decide) ?_
        refine backI h (runV (As := [.int (nI (1))]) (rest := []) C h (r_refuses l z v sc ar 1 (by decide)) gv_X10_105 gv_X10_105_n ⟨rfl, rfl⟩ (r_Ref C h) rfl hl.1 rfl (Nat.le_of_ble_eq_true rfl) dX10_popular_42 ⟨Nat.le_of_ble_eq_true rfl, Nat.le_of_ble_eq_true rfl⟩ ⟨Nat.le_of_ble_eq_true rfl, Nat.le_of_ble_eq_true rfl⟩) (fun r_42 v_42 sc_42 ar_42 H locs p_42 h => ?_)
        have h : hH z v (va_up sc 20 (nI (1))) ar s H locs := uEq p_42.2 h
        refine tI (y := nI (1)) p_42.1 ?_
        refine zN_eq (tgt := 50) (a := 1) C (by decide) dX10_popular_45 (by decide) (fun q => absurd q (by decide)) (fun _ => ?_)
        refine lv_iconst (v := nI (0)) hx hb dX10_popular_48 (by decide) ?_
        exact rI C hr hlk h dX10_popular_49 (Nat.le_of_ble_eq_true rfl) (Nat.le_of_ble_eq_true rfl) (Or.inl ⟨fun g => ew_14 g.2.1, rfl⟩)
set_option maxHeartbeats 4000000 in
set_option maxRecDepth 100000 in
theorem r_number (l : Launch) (z : bZ) (v : bV) (sc : Nat → Int32) (ar : Nat → Nat → Int32) (N : Nat) (x : Int32) (hN : sc 22 = nI N) (hN4 : N ≤ 400) : Met l yX10_number (Cond.code yX10_number cX10_number 2 (some .int) :: uW) { frames := 1, cells := 0, slots := 0, locals := 21 } (pC z v sc ar [.ref (zad z 27), .int (x)]) (qI z (fun r u => (N = 400 ∧ u = (v, va_up sc 20 (nI 1), ar)) ∨ (N < 400 ∧ r = nI (N + 1) ∧ u = (v, va_up (va_up sc 20 (nI 0)) 22 (nI (N + 1)), va_up ar 34 (upd (ar 34) N x))))) 0 0 (zA z) := by
  refine eM (by decide) (Nat.le_of_ble_eq_true rfl) ?_
  intro pP eE s mM below meth cC ls C hr hlk h hl
  have hx := C.1.1
  have hb := C.1.2.1
  have hl : lv_has ls 2 [(0, .ref (zad z 27)), (1, .int (x))] := hl
  refine lv_aload_n hx hb dX10_number_0 rfl (lv_at hl 0 rfl) ?_
  refine lv_aload_n hx hb dX10_number_1 rfl (lv_at hl 0 rfl) ?_
  refine rg_X10_120 C h dX10_number_2 ?_
  refine tI (y := nI (N)) hN ?_
  refine lv_sipush (v := nI (400)) hx hb dX10_number_5 (by decide) ?_
  refine jN_ne (tgt := 15) (a := N) (b := 400) C (by omega) (by omega) dX10_number_8 (by decide) (fun c_8 => ?_) (fun c_8 => ?_)
  · skip
    refine lv_iconst (v := nI (0)) hx hb dX10_number_15 (by decide) ?_
    refine backI h (runV (As := [.int (nI (0))]) (rest := []) C h (r_refuses l z v sc ar 0 (by decide)) gv_X10_105 gv_X10_105_n ⟨rfl, rfl⟩ (r_Ref C h) rfl hl.1 rfl (Nat.le_of_ble_eq_true rfl) dX10_number_16 ⟨Nat.le_of_ble_eq_true rfl, Nat.le_of_ble_eq_true rfl⟩ ⟨Nat.le_of_ble_eq_true rfl, Nat.le_of_ble_eq_true rfl⟩) (fun r_16 v_16 sc_16 ar_16 H locs p_16 h => ?_)
    have h : hH z v (va_up sc 20 (nI (0))) ar s H locs := uEq p_16.2 h
    refine tI (y := nI (0)) p_16.1 ?_
    refine zN_eq (tgt := 24) (a := 0) C (by decide) dX10_number_19 (by decide) (fun _ => ?_) (fun q => absurd q (by decide))
    refine lv_aload_n hx hb dX10_number_24 rfl (lv_at hl 0 rfl) ?_
    refine rg_X10_28 C h dX10_number_25 ?_
    refine lv_aload_n hx hb dX10_number_28 rfl (lv_at hl 0 rfl) ?_
    refine rg_X10_120 C h dX10_number_29 ?_
    refine tI (y := nI (N)) hN ?_
    refine lv_iload_n hx hb dX10_number_32 rfl (lv_at hl 1 rfl) ?_
    refine stA 34 rfl (j := N) (x := x) (show N < 400 by omega) (by decide) C h dX10_number_33 (fun H locs h => ?_)
    refine lv_aload_n hx hb dX10_number_34 rfl (lv_at hl 0 rfl) ?_
    refine lv_dup hx hb dX10_number_35 rfl ?_
    refine rg_X10_120 C h dX10_number_36 ?_
    refine tI (y := nI (N)) hN ?_
    refine lv_iconst (v := nI (1)) hx hb dX10_number_39 (by decide) ?_
    refine lv_iadd hx hb dX10_number_40 ?_
    refine tI (nI_add _ _) ?_
    refine rp_X10_120 C h dX10_number_41 (fun H locs h => ?_)
    refine lv_aload_n hx hb dX10_number_44 rfl (lv_at hl 0 rfl) ?_
    refine rg_X10_120 C h dX10_number_45 ?_
    refine tI (y := nI ((N) + (1))) rfl ?_
    exact rI C hr hlk h dX10_number_48 (Nat.le_of_ble_eq_true rfl) (Nat.le_of_ble_eq_true rfl) (Or.inr ⟨by omega, rfl, rfl⟩)
  · skip
    refine lv_iconst (v := nI (1)) hx hb dX10_number_11 (by decide) ?_
    refine lv_goto (tgt := 16) hx hb dX10_number_12 (by decide) ?_
    refine backI h (runV (As := [.int (nI (1))]) (rest := []) C h (r_refuses l z v sc ar 1 (by decide)) gv_X10_105 gv_X10_105_n ⟨rfl, rfl⟩ (r_Ref C h) rfl hl.1 rfl (Nat.le_of_ble_eq_true rfl) dX10_number_16 ⟨Nat.le_of_ble_eq_true rfl, Nat.le_of_ble_eq_true rfl⟩ ⟨Nat.le_of_ble_eq_true rfl, Nat.le_of_ble_eq_true rfl⟩) (fun r_16 v_16 sc_16 ar_16 H locs p_16 h => ?_)
    have h : hH z v (va_up sc 20 (nI (1))) ar s H locs := uEq p_16.2 h
    refine tI (y := nI (1)) p_16.1 ?_
    refine zN_eq (tgt := 24) (a := 1) C (by decide) dX10_number_19 (by decide) (fun q => absurd q (by decide)) (fun _ => ?_)
    refine lv_iconst (v := nI (0)) hx hb dX10_number_22 (by decide) ?_
    exact rI C hr hlk h dX10_number_23 (Nat.le_of_ble_eq_true rfl) (Nat.le_of_ble_eq_true rfl) (Or.inl ⟨c_8, rfl⟩)
set_option maxHeartbeats 4000000 in
set_option maxRecDepth 100000 in
theorem r_clear (l : Launch) (z : bZ) (v : bV) (sc : Nat → Int32) (ar : Nat → Nat → Int32) (N : Nat) (hN : sc 22 = nI N) : Met l yX10_clear (Cond.code yX10_clear cX10_clear 2 (some .int) :: uW) { frames := 0, cells := 0, slots := 0, locals := 0 } (pC z v sc ar [.ref (zad z 27)]) (qI z (fun r u => r = nI N ∧ u = (v, va_up (va_up sc 20 (nI 0)) 22 (nI 0), ar))) 0 0 (zA z) := by
  refine eM (by decide) (Nat.le_of_ble_eq_true rfl) ?_
  intro pP eE s mM below meth cC ls C hr hlk h hl
  have hx := C.1.1
  have hb := C.1.2.1
  have hl : lv_has ls 2 [(0, .ref (zad z 27))] := hl
  refine lv_aload_n hx hb dX10_clear_0 rfl (lv_at hl 0 rfl) ?_
  refine lv_iconst (v := nI (0)) hx hb dX10_clear_1 (by decide) ?_
  refine rp_X10_99 C h dX10_clear_2 (fun H locs h => ?_)
  refine lv_aload_n hx hb dX10_clear_5 rfl (lv_at hl 0 rfl) ?_
  refine rg_X10_120 C h dX10_clear_6 ?_
  refine tI (y := nI (N)) hN ?_
  refine lv_istore_n (lv' := [(1, .int (nI (N))), (0, .ref (zad z 27))]) hx hb dX10_clear_9 rfl hl (by decide) rfl (fun ls hl => ?_)
  refine lv_aload_n hx hb dX10_clear_10 rfl (lv_at hl 1 rfl) ?_
  refine lv_iconst (v := nI (0)) hx hb dX10_clear_11 (by decide) ?_
  refine rp_X10_120 C h dX10_clear_12 (fun H locs h => ?_)
  refine lv_iload_n hx hb dX10_clear_15 rfl (lv_at hl 0 rfl) ?_
  exact rI C hr hlk h dX10_clear_16 (Nat.le_of_ble_eq_true rfl) (Nat.le_of_ble_eq_true rfl) (⟨rfl, rfl⟩)
set_option maxHeartbeats 4000000 in
set_option maxRecDepth 100000 in
theorem r_row (l : Launch) (z : bZ) (v : bV) (sc : Nat → Int32) (ar : Nat → Nat → Int32) (N : Nat) (i : Int32) (hN : sc 22 = nI N) (hN4 : N ≤ 400) : Met l yX10_row (Cond.code yX10_row cX10_row 2 (some .int) :: uW) { frames := 0, cells := 0, slots := 0, locals := 0 } (pC z v sc ar [.ref (zad z 27), .int (i)]) (qI z (fun r u => u = (v, va_up sc 20 (nI 0), ar) ∧ (∀ j, j < N → i = nI j → r = ar 34 j) ∧ ((¬ ∃ j, j < N ∧ i = nI j) → r = 0))) 0 0 (zA z) := by
  refine eM (by decide) (Nat.le_of_ble_eq_true rfl) ?_
  intro pP eE s mM below meth cC ls C hr hlk h hl
  have hx := C.1.1
  have hb := C.1.2.1
  have hl : lv_has ls 2 [(0, .ref (zad z 27)), (1, .int (i))] := hl
  refine lv_aload_n hx hb dX10_row_0 rfl (lv_at hl 0 rfl) ?_
  refine lv_iconst (v := nI (0)) hx hb dX10_row_1 (by decide) ?_
  refine rp_X10_99 C h dX10_row_2 (fun H locs h => ?_)
  refine lv_iload_n hx hb dX10_row_5 rfl (lv_at hl 1 rfl) ?_
  refine lv_if_lt (tgt := 26) hx hb dX10_row_6 (by decide) (fun c_6 => ?_) (fun c_6 => ?_)
  · skip
    refine lv_iconst (v := nI (0)) hx hb dX10_row_26 (by decide) ?_
    exact rI C hr hlk h dX10_row_27 (Nat.le_of_ble_eq_true rfl) (Nat.le_of_ble_eq_true rfl) (⟨rfl, fun j hj e => absurd c_6 (by rw [e]; exact nI_pos (by omega)), fun _ => rfl⟩)
  · skip
    obtain ⟨j, hj, rfl⟩ := nI_of c_6
    refine lv_iload_n hx hb dX10_row_9 rfl (lv_at hl 1 rfl) ?_
    refine lv_aload_n hx hb dX10_row_10 rfl (lv_at hl 0 rfl) ?_
    refine rg_X10_120 C h dX10_row_11 ?_
    refine tI (y := nI (N)) hN ?_
    refine jN_ge (tgt := 26) (a := j) (b := N) C (by omega) (by omega) dX10_row_14 (by decide) (fun c_14 => ?_) (fun c_14 => ?_)
    · skip
      refine lv_iconst (v := nI (0)) hx hb dX10_row_26 (by decide) ?_
      exact rI C hr hlk h dX10_row_27 (Nat.le_of_ble_eq_true rfl) (Nat.le_of_ble_eq_true rfl) (⟨rfl, fun q hq e => absurd ((nI_eq hj (by omega)).mp e) (by omega), fun _ => rfl⟩)
    · skip
      refine lv_aload_n hx hb dX10_row_17 rfl (lv_at hl 0 rfl) ?_
      refine rg_X10_28 C h dX10_row_18 ?_
      refine lv_iload_n hx hb dX10_row_21 rfl (lv_at hl 1 rfl) ?_
      refine ldA 34 rfl (j := j) (show j < 400 by omega) (by decide) C h dX10_row_22 ?_
      refine tI (y := (ar 34) (j)) rfl ?_
      refine lv_goto (tgt := 27) hx hb dX10_row_23 (by decide) ?_
      exact rI C hr hlk h dX10_row_27 (Nat.le_of_ble_eq_true rfl) (Nat.le_of_ble_eq_true rfl) (⟨rfl, fun q hq e => by rw [(nI_eq hj (by omega)).mp e], fun q => absurd ⟨j, c_14, rfl⟩ q⟩)
theorem uk_X10_127 : Cond.constantLong RX10 127 (-1) ∈ uW := uW_of (by decide +kernel) rfl
theorem uk_X10_133 : Cond.constantLong RX10 133 (4294967296) ∈ uW := uW_of (by decide +kernel) rfl
theorem uk_X10_129 : Cond.constantLong RX10 129 (-2) ∈ uW := uW_of (by decide +kernel) rfl
theorem uk_X10_123 : Cond.constantLong RX10 123 (2) ∈ uW := uW_of (by decide +kernel) rfl
theorem uk_X10_131 : Cond.constantLong RX10 131 (-4) ∈ uW := uW_of (by decide +kernel) rfl
theorem uk_X10_125 : Cond.constantLong RX10 125 (3) ∈ uW := uW_of (by decide +kernel) rfl
set_option maxHeartbeats 4000000 in
set_option maxRecDepth 100000 in
theorem r_codeOf (l : Launch) (z : bZ) (v : bV) (sc : Nat → Int32) (ar : Nat → Nat → Int32) (t : Int32) (cs : Nat) (hS : cs ≤ 2) : Met l yX10_codeOf (Cond.code yX10_codeOf cX10_codeOf 5 (some .long) :: uW) { frames := 0, cells := 0, slots := 0, locals := 0 } (pC z v sc ar [.long (t.toInt64), .int (nI (cs))]) (qL z (fun r u => r = oL (cdO cs t) ∧ u = (v, sc, ar))) 0 0 (zA z) := by
  refine eM (by decide) (Nat.le_of_ble_eq_true rfl) ?_
  intro pP eE s mM below meth cC ls C hr hlk h hl
  have hx := C.1.1
  have hb := C.1.2.1
  have hl : lv_has ls 5 [(0, .long (t.toInt64)), (2, .int (nI (cs)))] := hl
  rcases (show cs = 0 ∨ cs = 1 ∨ cs = 2 by omega) with rfl | rfl | rfl
  · skip
    refine lv_lload_n hx hb dX10_codeOf_0 rfl (lv_at hl 0 rfl) ?_
    refine lv_lconst (v := lN 0) hx hb dX10_codeOf_1 (by decide) ?_
    refine W.lcmp hx hb dX10_codeOf_2 ?_
    refine lv_if_lt (tgt := 37) hx hb dX10_codeOf_3 (by decide) (fun c_3 => ?_) (fun c_3 => ?_)
    · skip
      have c_3 : (t.toInt64) < (lN (0)) := (lg_cmp_lt _ _).mp c_3
      obtain ⟨k, hk0, hk, hti, hng⟩ := t_negL c_3
      refine lv_iload_n hx hb dX10_codeOf_37 rfl (lv_at hl 1 rfl) ?_
      refine zN_ne (tgt := 47) (a := 0) C (by decide) dX10_codeOf_38 (by decide) (fun q => absurd q (by decide)) (fun _ => ?_)
      refine lv_ldc2 (v := -1) hx hb C.1.2.2.2.1 (C.1.2.2.2.2 _ uk_X10_127) dX10_codeOf_41 ?_
      refine lv_goto (tgt := 69) hx hb dX10_codeOf_44 (by decide) ?_
      refine lv_lstore_n (lv' := [(3, .long ((-1 : Int64))), (0, .long (t.toInt64)), (2, .int (nI (0)))]) hx hb dX10_codeOf_69 rfl hl (by decide) rfl (fun ls hl => ?_)
      refine lv_lload_n hx hb dX10_codeOf_70 rfl (lv_at hl 0 rfl) ?_
      refine lv_ldc2 (v := 4294967296) hx hb C.1.2.2.2.1 (C.1.2.2.2.2 _ uk_X10_133) dX10_codeOf_71 ?_
      refine tL (y := lN 4294967296) (by decide) ?_
      refine W.lcmp hx hb dX10_codeOf_74 ?_
      refine lv_if_ge (tgt := 82) hx hb dX10_codeOf_75 (by decide) (fun c_75 => ?_) (fun c_75 => ?_)
      · skip
        have c_75 : (lN (4294967296)) ≤ ((-1 : Int64)) := (lg_cmp_ge _ _).mp c_75
        exact absurd c_75 (by decide)
      · skip
        have c_75 : ¬ (lN (4294967296)) ≤ ((-1 : Int64)) := fun q => c_75 ((lg_cmp_ge _ _).mpr q)
        refine lv_lload_n hx hb dX10_codeOf_78 rfl (lv_at hl 0 rfl) ?_
        refine lv_goto (tgt := 85) hx hb dX10_codeOf_79 (by decide) ?_
        exact rL C hr hlk h dX10_codeOf_85 (Nat.le_of_ble_eq_true rfl) (Nat.le_of_ble_eq_true rfl) (⟨by rw [cdO_neg0 hti hk0]; rfl, rfl⟩)
    · skip
      have c_3 : ¬ (t.toInt64) < (lN (0)) := fun q => c_3 ((lg_cmp_lt _ _).mpr q)
      obtain ⟨k, hk, ht, hti⟩ := t_posL c_3
      have e3 : t.toInt64 = lN k := by rw [ht]; exact nI_l (by omega)
      have hl : lv_has ls 5 [(0, .long (lN (k))), (2, .int (nI (0)))] := by rw [e3] at hl; exact hl
      refine lv_iload_n hx hb dX10_codeOf_6 rfl (lv_at hl 1 rfl) ?_
      refine zN_ne (tgt := 14) (a := 0) C (by decide) dX10_codeOf_7 (by decide) (fun q => absurd q (by decide)) (fun _ => ?_)
      refine lv_lload_n hx hb dX10_codeOf_10 rfl (lv_at hl 0 rfl) ?_
      refine lv_goto (tgt := 69) hx hb dX10_codeOf_11 (by decide) ?_
      refine lv_lstore_n (lv' := [(3, .long (lN (k))), (0, .long (lN (k))), (2, .int (nI (0)))]) hx hb dX10_codeOf_69 rfl hl (by decide) rfl (fun ls hl => ?_)
      refine lv_lload_n hx hb dX10_codeOf_70 rfl (lv_at hl 0 rfl) ?_
      refine lv_ldc2 (v := 4294967296) hx hb C.1.2.2.2.1 (C.1.2.2.2.2 _ uk_X10_133) dX10_codeOf_71 ?_
      refine tL (y := lN 4294967296) (by decide) ?_
      refine W.lcmp hx hb dX10_codeOf_74 ?_
      refine lv_if_ge (tgt := 82) hx hb dX10_codeOf_75 (by decide) (fun c_75 => ?_) (fun c_75 => ?_)
      · skip
        have c_75 : (4294967296) ≤ (k) := (pk_lLE (by omega) (by omega)).mp ((lg_cmp_ge _ _).mp c_75)
        omega
      · skip
        have c_75 : (k) < (4294967296) := Nat.not_le.mp (fun q => c_75 ((lg_cmp_ge _ _).mpr ((pk_lLE (by omega) (by omega)).mpr q)))
        refine lv_lload_n hx hb dX10_codeOf_78 rfl (lv_at hl 0 rfl) ?_
        refine lv_goto (tgt := 85) hx hb dX10_codeOf_79 (by decide) ?_
        exact rL C hr hlk h dX10_codeOf_85 (Nat.le_of_ble_eq_true rfl) (Nat.le_of_ble_eq_true rfl) (⟨by rw [cdO_pos hti]; rfl, rfl⟩)
  · skip
    refine lv_lload_n hx hb dX10_codeOf_0 rfl (lv_at hl 0 rfl) ?_
    refine lv_lconst (v := lN 0) hx hb dX10_codeOf_1 (by decide) ?_
    refine W.lcmp hx hb dX10_codeOf_2 ?_
    refine lv_if_lt (tgt := 37) hx hb dX10_codeOf_3 (by decide) (fun c_3 => ?_) (fun c_3 => ?_)
    · skip
      have c_3 : (t.toInt64) < (lN (0)) := (lg_cmp_lt _ _).mp c_3
      obtain ⟨k, hk0, hk, hti, hng⟩ := t_negL c_3
      refine lv_iload_n hx hb dX10_codeOf_37 rfl (lv_at hl 1 rfl) ?_
      refine zN_ne (tgt := 47) (a := 1) C (by decide) dX10_codeOf_38 (by decide) (fun _ => ?_) (fun q => absurd q (by decide))
      refine lv_iload_n hx hb dX10_codeOf_47 rfl (lv_at hl 1 rfl) ?_
      refine lv_iconst (v := nI (1)) hx hb dX10_codeOf_48 (by decide) ?_
      refine jN_ne (tgt := 62) (a := 1) (b := 1) C (by omega) (by omega) dX10_codeOf_49 (by decide) (fun c_49 => ?_) (fun c_49 => ?_)
      · skip
        exact absurd c_49 (by decide)
      · skip
        refine lv_ldc2 (v := -2) hx hb C.1.2.2.2.1 (C.1.2.2.2.2 _ uk_X10_129) dX10_codeOf_52 ?_
        refine lv_lload_n hx hb dX10_codeOf_55 rfl (lv_at hl 0 rfl) ?_
        refine lv_lmul hx hb dX10_codeOf_56 ?_
        refine tL (y := lN (2 * k)) (m2L hng) ?_
        refine lv_lconst (v := lN 1) hx hb dX10_codeOf_57 (by decide) ?_
        refine lv_lsub hx hb dX10_codeOf_58 ?_
        refine tL (lN_sub (by omega)) ?_
        refine lv_goto (tgt := 69) hx hb dX10_codeOf_59 (by decide) ?_
        refine lv_lstore_n (lv' := [(3, .long (lN ((2 * k) - (1)))), (0, .long (t.toInt64)), (2, .int (nI (1)))]) hx hb dX10_codeOf_69 rfl hl (by decide) rfl (fun ls hl => ?_)
        refine lv_lload_n hx hb dX10_codeOf_70 rfl (lv_at hl 0 rfl) ?_
        refine lv_ldc2 (v := 4294967296) hx hb C.1.2.2.2.1 (C.1.2.2.2.2 _ uk_X10_133) dX10_codeOf_71 ?_
        refine tL (y := lN 4294967296) (by decide) ?_
        refine W.lcmp hx hb dX10_codeOf_74 ?_
        refine lv_if_ge (tgt := 82) hx hb dX10_codeOf_75 (by decide) (fun c_75 => ?_) (fun c_75 => ?_)
        · skip
          have c_75 : (4294967296) ≤ ((2 * k) - (1)) := (pk_lLE (by omega) (by omega)).mp ((lg_cmp_ge _ _).mp c_75)
          refine lv_ldc2 (v := -1) hx hb C.1.2.2.2.1 (C.1.2.2.2.2 _ uk_X10_127) dX10_codeOf_82 ?_
          exact rL C hr hlk h dX10_codeOf_85 (Nat.le_of_ble_eq_true rfl) (Nat.le_of_ble_eq_true rfl) (⟨by rw [cdO_neg (w := 2) (by decide) rfl hti hk0, if_neg (by omega)]; rfl, rfl⟩)
        · skip
          have c_75 : ((2 * k) - (1)) < (4294967296) := Nat.not_le.mp (fun q => c_75 ((lg_cmp_ge _ _).mpr ((pk_lLE (by omega) (by omega)).mpr q)))
          refine lv_lload_n hx hb dX10_codeOf_78 rfl (lv_at hl 0 rfl) ?_
          refine lv_goto (tgt := 85) hx hb dX10_codeOf_79 (by decide) ?_
          exact rL C hr hlk h dX10_codeOf_85 (Nat.le_of_ble_eq_true rfl) (Nat.le_of_ble_eq_true rfl) (⟨by rw [cdO_neg (w := 2) (by decide) rfl hti hk0, if_pos (by omega)]; rfl, rfl⟩)
    · skip
      have c_3 : ¬ (t.toInt64) < (lN (0)) := fun q => c_3 ((lg_cmp_lt _ _).mpr q)
      obtain ⟨k, hk, ht, hti⟩ := t_posL c_3
      have e3 : t.toInt64 = lN k := by rw [ht]; exact nI_l (by omega)
      have hl : lv_has ls 5 [(0, .long (lN (k))), (2, .int (nI (1)))] := by rw [e3] at hl; exact hl
      refine lv_iload_n hx hb dX10_codeOf_6 rfl (lv_at hl 1 rfl) ?_
      refine zN_ne (tgt := 14) (a := 1) C (by decide) dX10_codeOf_7 (by decide) (fun _ => ?_) (fun q => absurd q (by decide))
      refine lv_iload_n hx hb dX10_codeOf_14 rfl (lv_at hl 1 rfl) ?_
      refine lv_iconst (v := nI (1)) hx hb dX10_codeOf_15 (by decide) ?_
      refine jN_ne (tgt := 27) (a := 1) (b := 1) C (by omega) (by omega) dX10_codeOf_16 (by decide) (fun c_16 => ?_) (fun c_16 => ?_)
      · skip
        exact absurd c_16 (by decide)
      · skip
        refine lv_ldc2 (v := 2) hx hb C.1.2.2.2.1 (C.1.2.2.2.2 _ uk_X10_123) dX10_codeOf_19 ?_
        refine tL (y := lN 2) (by decide) ?_
        refine lv_lload_n hx hb dX10_codeOf_22 rfl (lv_at hl 0 rfl) ?_
        refine lv_lmul hx hb dX10_codeOf_23 ?_
        refine tL (lN_mul _ _) ?_
        refine lv_goto (tgt := 69) hx hb dX10_codeOf_24 (by decide) ?_
        refine lv_lstore_n (lv' := [(3, .long (lN ((2) * (k)))), (0, .long (lN (k))), (2, .int (nI (1)))]) hx hb dX10_codeOf_69 rfl hl (by decide) rfl (fun ls hl => ?_)
        refine lv_lload_n hx hb dX10_codeOf_70 rfl (lv_at hl 0 rfl) ?_
        refine lv_ldc2 (v := 4294967296) hx hb C.1.2.2.2.1 (C.1.2.2.2.2 _ uk_X10_133) dX10_codeOf_71 ?_
        refine tL (y := lN 4294967296) (by decide) ?_
        refine W.lcmp hx hb dX10_codeOf_74 ?_
        refine lv_if_ge (tgt := 82) hx hb dX10_codeOf_75 (by decide) (fun c_75 => ?_) (fun c_75 => ?_)
        · skip
          have c_75 : (4294967296) ≤ ((2) * (k)) := (pk_lLE (by omega) (by omega)).mp ((lg_cmp_ge _ _).mp c_75)
          omega
        · skip
          have c_75 : ((2) * (k)) < (4294967296) := Nat.not_le.mp (fun q => c_75 ((lg_cmp_ge _ _).mpr ((pk_lLE (by omega) (by omega)).mpr q)))
          refine lv_lload_n hx hb dX10_codeOf_78 rfl (lv_at hl 0 rfl) ?_
          refine lv_goto (tgt := 85) hx hb dX10_codeOf_79 (by decide) ?_
          exact rL C hr hlk h dX10_codeOf_85 (Nat.le_of_ble_eq_true rfl) (Nat.le_of_ble_eq_true rfl) (⟨by rw [cdO_pos hti, if_neg (by decide), show (2 : Nat) ^ 1 - 1 = 1 from rfl, Nat.div_one]; show lN _ = lN _; congr 1; omega, rfl⟩)
  · skip
    refine lv_lload_n hx hb dX10_codeOf_0 rfl (lv_at hl 0 rfl) ?_
    refine lv_lconst (v := lN 0) hx hb dX10_codeOf_1 (by decide) ?_
    refine W.lcmp hx hb dX10_codeOf_2 ?_
    refine lv_if_lt (tgt := 37) hx hb dX10_codeOf_3 (by decide) (fun c_3 => ?_) (fun c_3 => ?_)
    · skip
      have c_3 : (t.toInt64) < (lN (0)) := (lg_cmp_lt _ _).mp c_3
      obtain ⟨k, hk0, hk, hti, hng⟩ := t_negL c_3
      refine lv_iload_n hx hb dX10_codeOf_37 rfl (lv_at hl 1 rfl) ?_
      refine zN_ne (tgt := 47) (a := 2) C (by decide) dX10_codeOf_38 (by decide) (fun _ => ?_) (fun q => absurd q (by decide))
      refine lv_iload_n hx hb dX10_codeOf_47 rfl (lv_at hl 1 rfl) ?_
      refine lv_iconst (v := nI (1)) hx hb dX10_codeOf_48 (by decide) ?_
      refine jN_ne (tgt := 62) (a := 2) (b := 1) C (by omega) (by omega) dX10_codeOf_49 (by decide) (fun c_49 => ?_) (fun c_49 => ?_)
      · skip
        refine lv_ldc2 (v := -4) hx hb C.1.2.2.2.1 (C.1.2.2.2.2 _ uk_X10_131) dX10_codeOf_62 ?_
        refine lv_lload_n hx hb dX10_codeOf_65 rfl (lv_at hl 0 rfl) ?_
        refine lv_lmul hx hb dX10_codeOf_66 ?_
        refine tL (y := lN (4 * k)) (m4L hng) ?_
        refine lv_lconst (v := lN 1) hx hb dX10_codeOf_67 (by decide) ?_
        refine lv_lsub hx hb dX10_codeOf_68 ?_
        refine tL (lN_sub (by omega)) ?_
        refine lv_lstore_n (lv' := [(3, .long (lN ((4 * k) - (1)))), (0, .long (t.toInt64)), (2, .int (nI (2)))]) hx hb dX10_codeOf_69 rfl hl (by decide) rfl (fun ls hl => ?_)
        refine lv_lload_n hx hb dX10_codeOf_70 rfl (lv_at hl 0 rfl) ?_
        refine lv_ldc2 (v := 4294967296) hx hb C.1.2.2.2.1 (C.1.2.2.2.2 _ uk_X10_133) dX10_codeOf_71 ?_
        refine tL (y := lN 4294967296) (by decide) ?_
        refine W.lcmp hx hb dX10_codeOf_74 ?_
        refine lv_if_ge (tgt := 82) hx hb dX10_codeOf_75 (by decide) (fun c_75 => ?_) (fun c_75 => ?_)
        · skip
          have c_75 : (4294967296) ≤ ((4 * k) - (1)) := (pk_lLE (by omega) (by omega)).mp ((lg_cmp_ge _ _).mp c_75)
          refine lv_ldc2 (v := -1) hx hb C.1.2.2.2.1 (C.1.2.2.2.2 _ uk_X10_127) dX10_codeOf_82 ?_
          exact rL C hr hlk h dX10_codeOf_85 (Nat.le_of_ble_eq_true rfl) (Nat.le_of_ble_eq_true rfl) (⟨by rw [cdO_neg (w := 4) (by decide) rfl hti hk0, if_neg (by omega)]; rfl, rfl⟩)
        · skip
          have c_75 : ((4 * k) - (1)) < (4294967296) := Nat.not_le.mp (fun q => c_75 ((lg_cmp_ge _ _).mpr ((pk_lLE (by omega) (by omega)).mpr q)))
          refine lv_lload_n hx hb dX10_codeOf_78 rfl (lv_at hl 0 rfl) ?_
          refine lv_goto (tgt := 85) hx hb dX10_codeOf_79 (by decide) ?_
          exact rL C hr hlk h dX10_codeOf_85 (Nat.le_of_ble_eq_true rfl) (Nat.le_of_ble_eq_true rfl) (⟨by rw [cdO_neg (w := 4) (by decide) rfl hti hk0, if_pos (by omega)]; rfl, rfl⟩)
      · skip
        exact absurd c_49 (by decide)
    · skip
      have c_3 : ¬ (t.toInt64) < (lN (0)) := fun q => c_3 ((lg_cmp_lt _ _).mpr q)
      obtain ⟨k, hk, ht, hti⟩ := t_posL c_3
      have e3 : t.toInt64 = lN k := by rw [ht]; exact nI_l (by omega)
      have hl : lv_has ls 5 [(0, .long (lN (k))), (2, .int (nI (2)))] := by rw [e3] at hl; exact hl
      refine lv_iload_n hx hb dX10_codeOf_6 rfl (lv_at hl 1 rfl) ?_
      refine zN_ne (tgt := 14) (a := 2) C (by decide) dX10_codeOf_7 (by decide) (fun _ => ?_) (fun q => absurd q (by decide))
      refine lv_iload_n hx hb dX10_codeOf_14 rfl (lv_at hl 1 rfl) ?_
      refine lv_iconst (v := nI (1)) hx hb dX10_codeOf_15 (by decide) ?_
      refine jN_ne (tgt := 27) (a := 2) (b := 1) C (by omega) (by omega) dX10_codeOf_16 (by decide) (fun c_16 => ?_) (fun c_16 => ?_)
      · skip
        refine lv_lload_n hx hb dX10_codeOf_27 rfl (lv_at hl 0 rfl) ?_
        refine lv_lload_n hx hb dX10_codeOf_28 rfl (lv_at hl 0 rfl) ?_
        refine lv_ldc2 (v := 3) hx hb C.1.2.2.2.1 (C.1.2.2.2.2 _ uk_X10_125) dX10_codeOf_29 ?_
        refine tL (y := lN 3) (by decide) ?_
        refine lv_ldiv hx hb dX10_codeOf_32 (lN_ne0 (by omega) (by omega)) ?_
        refine tL (pk_lDiv (by omega) (by omega) (by omega)) ?_
        refine lv_ladd hx hb dX10_codeOf_33 ?_
        refine tL (lN_add _ _) ?_
        refine lv_goto (tgt := 69) hx hb dX10_codeOf_34 (by decide) ?_
        refine lv_lstore_n (lv' := [(3, .long (lN ((k) + ((k) / (3))))), (0, .long (lN (k))), (2, .int (nI (2)))]) hx hb dX10_codeOf_69 rfl hl (by decide) rfl (fun ls hl => ?_)
        refine lv_lload_n hx hb dX10_codeOf_70 rfl (lv_at hl 0 rfl) ?_
        refine lv_ldc2 (v := 4294967296) hx hb C.1.2.2.2.1 (C.1.2.2.2.2 _ uk_X10_133) dX10_codeOf_71 ?_
        refine tL (y := lN 4294967296) (by decide) ?_
        refine W.lcmp hx hb dX10_codeOf_74 ?_
        refine lv_if_ge (tgt := 82) hx hb dX10_codeOf_75 (by decide) (fun c_75 => ?_) (fun c_75 => ?_)
        · skip
          have c_75 : (4294967296) ≤ ((k) + ((k) / (3))) := (pk_lLE (by omega) (by omega)).mp ((lg_cmp_ge _ _).mp c_75)
          omega
        · skip
          have c_75 : ((k) + ((k) / (3))) < (4294967296) := Nat.not_le.mp (fun q => c_75 ((lg_cmp_ge _ _).mpr ((pk_lLE (by omega) (by omega)).mpr q)))
          refine lv_lload_n hx hb dX10_codeOf_78 rfl (lv_at hl 0 rfl) ?_
          refine lv_goto (tgt := 85) hx hb dX10_codeOf_79 (by decide) ?_
          exact rL C hr hlk h dX10_codeOf_85 (Nat.le_of_ble_eq_true rfl) (Nat.le_of_ble_eq_true rfl) (⟨by rw [cdO_pos hti, if_neg (by decide), show (2 : Nat) ^ 2 - 1 = 3 from rfl]; rfl, rfl⟩)
      · skip
        exact absurd c_16 (by decide)
set_option maxHeartbeats 4000000 in
set_option maxRecDepth 100000 in
theorem r_told (l : Launch) (z : bZ) (v : bV) (sc : Nat → Int32) (ar : Nat → Nat → Int32) (K w : Nat) (wt : Nat → Nat → Nat) (dp : Nat → Nat) (x y : Int32) (hK4 : K ≤ 40) (hRW : RW wt dp K ar) (hw : w < K) (hw0 : wt w 0 = 0) : Met l yX10_told (Cond.code yX10_told cX10_told 4 (some .int) :: uW) { frames := 0, cells := 0, slots := 0, locals := 0 } (pC z v sc ar [.ref (zad z 27), .int (nI (w)), .int (x), .int (y)]) (qI z (fun r u => r = toldI (wt w 4) x y ∧ u = (v, sc, ar))) 0 0 (zA z) := by
  refine eM (by decide) (Nat.le_of_ble_eq_true rfl) ?_
  intro pP eE s mM below meth cC ls C hr hlk h hl
  have hx := C.1.1
  have hb := C.1.2.1
  have hl : lv_has ls 4 [(0, .ref (zad z 27)), (1, .int (nI (w))), (2, .int (x)), (3, .int (y))] := hl
  have hd1 : wt w 4 ≤ 1 := by
    rcases (hRW w hw).2.2.2.2.2.2 with q | q | q
    · exact q.2.2.2.2.2
    · omega
    · omega
  refine lv_aload_n hx hb dX10_told_0 rfl (lv_at hl 0 rfl) ?_
  refine rg_X10_22 C h dX10_told_1 ?_
  refine lv_iload_n hx hb dX10_told_4 rfl (lv_at hl 1 rfl) ?_
  refine ldA 32 rfl (j := w) (show w < 40 by omega) (by decide) C h dX10_told_5 ?_
  refine tI (y := nI (wt w 4)) (hRW w hw).2.2.2.2.1 ?_
  refine lv_iconst (v := nI (1)) hx hb dX10_told_6 (by decide) ?_
  refine jN_ne (tgt := 16) (a := wt w 4) (b := 1) C (by omega) (by omega) dX10_told_7 (by decide) (fun c_7 => ?_) (fun c_7 => ?_)
  · skip
    refine lv_iload_n hx hb dX10_told_16 rfl (lv_at hl 2 rfl) ?_
    exact rI C hr hlk h dX10_told_17 (Nat.le_of_ble_eq_true rfl) (Nat.le_of_ble_eq_true rfl) (⟨by unfold toldI; rw [if_neg c_7], rfl⟩)
  · skip
    refine lv_iload_n hx hb dX10_told_10 rfl (lv_at hl 2 rfl) ?_
    refine lv_iload_n hx hb dX10_told_11 rfl (lv_at hl 3 rfl) ?_
    refine lv_isub hx hb dX10_told_12 ?_
    refine lv_goto (tgt := 17) hx hb dX10_told_13 (by decide) ?_
    exact rI C hr hlk h dX10_told_17 (Nat.le_of_ble_eq_true rfl) (Nat.le_of_ble_eq_true rfl) (⟨by unfold toldI; rw [if_pos c_7], rfl⟩)
def tkA (ar : Nat → Nat → Int32) (T w f c : Nat) : Nat → Nat → Int32 := va_up (va_up (va_up ar 37 (upd (ar 37) T (nI w))) 38 (upd (ar 38) T (nI f))) 39 (upd (ar 39) T (nI c))
set_option maxHeartbeats 4000000 in
set_option maxRecDepth 100000 in
theorem r_task (l : Launch) (z : bZ) (v : bV) (sc : Nat → Int32) (ar : Nat → Nat → Int32) (T w f c0 : Nat) (hT0 : sc 30 = nI T) (hT8 : T < 80) : Met l yX10_task (Cond.code yX10_task cX10_task 4 none :: uW) { frames := 0, cells := 0, slots := 0, locals := 0 } (pC z v sc ar [.ref (zad z 27), .int (nI (w)), .int (nI (f)), .int (nI (c0))]) (qV z (fun u => u = (v, va_up sc 30 (nI (T + 1)), tkA ar T w f c0))) 0 0 (zA z) := by
  refine eM (by decide) (Nat.le_of_ble_eq_true rfl) ?_
  intro pP eE s mM below meth cC ls C hr hlk h hl
  have hx := C.1.1
  have hb := C.1.2.1
  have hl : lv_has ls 4 [(0, .ref (zad z 27)), (1, .int (nI (w))), (2, .int (nI (f))), (3, .int (nI (c0)))] := hl
  refine lv_aload_n hx hb dX10_task_0 rfl (lv_at hl 0 rfl) ?_
  refine rg_X10_51 C h dX10_task_1 ?_
  refine lv_aload_n hx hb dX10_task_4 rfl (lv_at hl 0 rfl) ?_
  refine rg_X10_144 C h dX10_task_5 ?_
  refine tI (y := nI (T)) hT0 ?_
  refine lv_iload_n hx hb dX10_task_8 rfl (lv_at hl 1 rfl) ?_
  refine stA 37 rfl (j := T) (x := nI (w)) (show T < 80 by omega) (by decide) C h dX10_task_9 (fun H locs h => ?_)
  refine lv_aload_n hx hb dX10_task_10 rfl (lv_at hl 0 rfl) ?_
  refine rg_X10_54 C h dX10_task_11 ?_
  refine lv_aload_n hx hb dX10_task_14 rfl (lv_at hl 0 rfl) ?_
  refine rg_X10_144 C h dX10_task_15 ?_
  refine tI (y := nI (T)) hT0 ?_
  refine lv_iload_n hx hb dX10_task_18 rfl (lv_at hl 2 rfl) ?_
  refine stA 38 rfl (j := T) (x := nI (f)) (show T < 80 by omega) (by decide) C h dX10_task_19 (fun H locs h => ?_)
  refine lv_aload_n hx hb dX10_task_20 rfl (lv_at hl 0 rfl) ?_
  refine rg_X10_57 C h dX10_task_21 ?_
  refine lv_aload_n hx hb dX10_task_24 rfl (lv_at hl 0 rfl) ?_
  refine rg_X10_144 C h dX10_task_25 ?_
  refine tI (y := nI (T)) hT0 ?_
  refine lv_iload_n hx hb dX10_task_28 rfl (lv_at hl 3 rfl) ?_
  refine stA 39 rfl (j := T) (x := nI (c0)) (show T < 80 by omega) (by decide) C h dX10_task_29 (fun H locs h => ?_)
  refine lv_aload_n hx hb dX10_task_30 rfl (lv_at hl 0 rfl) ?_
  refine lv_dup hx hb dX10_task_31 rfl ?_
  refine rg_X10_144 C h dX10_task_32 ?_
  refine tI (y := nI (T)) hT0 ?_
  refine lv_iconst (v := nI (1)) hx hb dX10_task_35 (by decide) ?_
  refine lv_iadd hx hb dX10_task_36 ?_
  refine tI (nI_add _ _) ?_
  refine rp_X10_144 C h dX10_task_37 (fun H locs h => ?_)
  exact rV C hr hlk h dX10_task_40 (Nat.le_of_ble_eq_true rfl) (Nat.le_of_ble_eq_true rfl) (rfl)
