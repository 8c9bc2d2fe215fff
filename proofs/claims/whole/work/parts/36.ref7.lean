/-! The reference: one step of reading by favourites. -/
theorem cO_zero {kn : Nat} {x : Int32} {xs : List Int32} (h : ¬ x < 0) (h2 : x ≤ nI kn) (h0 : x = 0) : cO kn (x :: xs) = (cO kn xs).map (fun q => q + 1) := by rw [cO_ok h h2, if_pos h0]
theorem cO_more {kn : Nat} {x : Int32} {xs : List Int32} (h : ¬ x < 0) (h2 : x ≤ nI kn) (h0 : ¬ x = 0) : cO kn (x :: xs) = cO kn xs := by
  rw [cO_ok h h2, if_neg h0]
  cases cO kn xs <;> rfl
theorem gv_X10_199 : GoodIn uW (wsV RX10 199 RX10 yX10_room (Cond.code yX10_room cX10_room 2 (some .int) :: uW)) := gI_V (uW_of (by decide +kernel) rfl) (uW_of (by decide +kernel) rfl) (uW_of (by decide +kernel) rfl) (uW_of (by decide +kernel) rfl) (uW_of (by decide +kernel) rfl)
theorem gv_X10_199_n : okN yX10_room 1 := by decide +kernel
theorem gv_X10_189 : GoodIn uW (wsV RX10 189 RX10 yX10_into (Cond.code yX10_into cX10_into 5 none :: uW)) := gI_V (uW_of (by decide +kernel) rfl) (uW_of (by decide +kernel) rfl) (uW_of (by decide +kernel) rfl) (uW_of (by decide +kernel) rfl) (uW_of (by decide +kernel) rfl)
theorem gv_X10_189_n : okN yX10_into 4 := by decide +kernel
set_option maxHeartbeats 4000000 in
set_option maxRecDepth 100000 in
theorem r_pop0 (l : Launch) (z : bZ) (v : bV) (sc : Nat → Int32) (ar : Nat → Nat → Int32) (K L w cnt us p : Nat) (wt : Nat → Nat → Nat) (dp : Nat → Nat) (hK4 : K ≤ 40) (hRW : RW wt dp K ar) (hw : w < K) (hw2 : wt w 0 = 2) (hL : L < 7) (g42 : ar 42 L = nI w) (g43 : ar 43 L = nI cnt) (hus : sc 29 = nI us) (hp : sc 32 = nI p) : Met l yX10_readsPopular (Cond.code yX10_readsPopular cX10_readsPopular 9 none :: uW) { frames := 1, cells := 0, slots := 0, locals := 24 } (pC z v sc ar [.ref (zad z 27), .int (nI (L)), .int (nI (0))]) (qV z (fun u => u = (v, va_up sc 29 (nI (us + 1)), inA (va_up (va_up ar 46 (upd (ar 46) L (nI us))) 50 (upd (ar 50) L (nI p))) (L + 1) (wt w 2) 1 us))) 0 0 (zA z) := by
  refine eM (by decide) (Nat.le_of_ble_eq_true rfl) ?_
  intro pP eE s mM below meth cC ls C hr hlk h hl
  have hx := C.1.1
  have hb := C.1.2.1
  have hl : lv_has ls 9 [(0, .ref (zad z 27)), (1, .int (nI (L))), (2, .int (nI (0)))] := hl
  obtain ⟨⟨hm1, hm5⟩, -⟩ := popOK (hRW w hw).2.2.2.2.2.2 hw2
  refine lv_aload_n hx hb dX10_readsPopular_0 rfl (lv_at hl 0 rfl) ?_
  refine rg_X10_66 C h dX10_readsPopular_1 ?_
  refine lv_iload_n hx hb dX10_readsPopular_4 rfl (lv_at hl 1 rfl) ?_
  refine ldA 42 rfl (j := L) (show L < 8 by omega) (by decide) C h dX10_readsPopular_5 ?_
  refine tI (y := nI (w)) g42 ?_
  refine lv_istore_n (lv' := [(3, .int (nI (w))), (0, .ref (zad z 27)), (1, .int (nI (L))), (2, .int (nI (0)))]) hx hb dX10_readsPopular_6 rfl hl (by decide) rfl (fun ls hl => ?_)
  refine lv_aload_n hx hb dX10_readsPopular_7 rfl (lv_at hl 1 rfl) ?_
  refine rg_X10_69 C h dX10_readsPopular_8 ?_
  refine lv_iload_n hx hb dX10_readsPopular_11 rfl (lv_at hl 2 rfl) ?_
  refine ldA 43 rfl (j := L) (show L < 8 by omega) (by decide) C h dX10_readsPopular_12 ?_
  refine tI (y := nI (cnt)) g43 ?_
  refine lv_istore (lv' := [(4, .int (nI (cnt))), (3, .int (nI (w))), (0, .ref (zad z 27)), (1, .int (nI (L))), (2, .int (nI (0)))]) hx hb dX10_readsPopular_13 hl (by decide) rfl (fun ls hl => ?_)
  refine lv_iload_n hx hb dX10_readsPopular_15 rfl (lv_at hl 4 rfl) ?_
  refine zN_le (tgt := 33) (a := 0) C (by decide) dX10_readsPopular_16 (by decide) (fun _ => ?_) (fun q => absurd q (by decide))
  refine lv_iconst (v := nI (0)) hx hb dX10_readsPopular_33 (by decide) ?_
  refine lv_istore (lv' := [(5, .int (nI (0))), (4, .int (nI (cnt))), (3, .int (nI (w))), (0, .ref (zad z 27)), (1, .int (nI (L))), (2, .int (nI (0)))]) hx hb dX10_readsPopular_34 hl (by decide) rfl (fun ls hl => ?_)
  refine lv_iload_n hx hb dX10_readsPopular_36 rfl (lv_at hl 5 rfl) ?_
  refine lv_tableIn (tgt := 68) (off := 31) hx hb dX10_readsPopular_37 (by decide) (by decide) (by decide) (by decide) ?_
  refine lv_aload_n hx hb dX10_readsPopular_68 rfl (lv_at hl 3 rfl) ?_
  refine rg_X10_78 C h dX10_readsPopular_69 ?_
  refine lv_iload_n hx hb dX10_readsPopular_72 rfl (lv_at hl 4 rfl) ?_
  refine lv_aload_n hx hb dX10_readsPopular_73 rfl (lv_at hl 3 rfl) ?_
  refine lv_iconst (v := nI (1)) hx hb dX10_readsPopular_74 (by decide) ?_
  refine backI h (runV (As := [.int (nI (1))]) (rest := [.int (nI (L)), .ref (zad z 46)]) C h (r_room l z v sc ar us (1) hus) gv_X10_199 gv_X10_199_n ⟨rfl, rfl⟩ (r_Ref C h) rfl hl.1 rfl (Nat.le_of_ble_eq_true rfl) dX10_readsPopular_75 ⟨Nat.le_of_ble_eq_true rfl, Nat.le_of_ble_eq_true rfl⟩ ⟨Nat.le_of_ble_eq_true rfl, Nat.le_of_ble_eq_true rfl⟩) (fun r_75 v_75 sc_75 ar_75 H locs p_75 h => ?_)
  have h : hH z v (va_up sc 29 (nI (us + 1))) ar s H locs := uEq p_75.2 h
  refine tI (y := nI (us)) p_75.1 ?_
  refine stA 46 rfl (j := L) (x := nI (us)) (show L < 8 by omega) (by decide) C h dX10_readsPopular_78 (fun H locs h => ?_)
  refine lv_aload_n hx hb dX10_readsPopular_79 rfl (lv_at hl 3 rfl) ?_
  refine rg_X10_90 C h dX10_readsPopular_80 ?_
  refine lv_iload_n hx hb dX10_readsPopular_83 rfl (lv_at hl 4 rfl) ?_
  refine lv_aload_n hx hb dX10_readsPopular_84 rfl (lv_at hl 3 rfl) ?_
  refine rg_X10_177 C h dX10_readsPopular_85 ?_
  refine tI (y := nI (p)) hp ?_
  refine stA 50 rfl (j := L) (x := nI (p)) (show L < 8 by omega) (by decide) C h dX10_readsPopular_88 (fun H locs h => ?_)
  refine lv_aload_n hx hb dX10_readsPopular_89 rfl (lv_at hl 3 rfl) ?_
  refine lv_iload_n hx hb dX10_readsPopular_90 rfl (lv_at hl 4 rfl) ?_
  refine lv_iconst (v := nI (1)) hx hb dX10_readsPopular_91 (by decide) ?_
  refine lv_iadd hx hb dX10_readsPopular_92 ?_
  refine tI (y := nI (L + 1)) (nI_add _ _) ?_
  refine lv_aload_n hx hb dX10_readsPopular_93 rfl (lv_at hl 3 rfl) ?_
  refine rg_X10_16 C h dX10_readsPopular_94 ?_
  refine lv_iload_n hx hb dX10_readsPopular_97 rfl (lv_at hl 2 rfl) ?_
  refine ldA 30 rfl (j := w) (show w < 40 by omega) (by decide) C h dX10_readsPopular_98 ?_
  refine tI (y := nI (wt w 2)) (hRW w hw).2.2.1 ?_
  refine lv_iconst (v := nI (1)) hx hb dX10_readsPopular_99 (by decide) ?_
  refine lv_aload_n hx hb dX10_readsPopular_100 rfl (lv_at hl 3 rfl) ?_
  refine rg_X10_78 C h dX10_readsPopular_101 ?_
  refine lv_iload_n hx hb dX10_readsPopular_104 rfl (lv_at hl 4 rfl) ?_
  refine ldA 46 rfl (j := L) (show L < 8 by omega) (by decide) C h dX10_readsPopular_105 ?_
  refine tI (y := nI (us)) (by show upd (ar 46) L (nI us) L = _; rw [pk_us]) ?_
  refine backV h (runV (As := [.int (nI (L + 1)), .int (nI (wt w 2)), .int (nI (1)), .int (nI (us))]) (rest := []) C h (r_into l z v (va_up sc 29 (nI (us + 1))) (va_up (va_up ar 46 (upd (ar 46) (L) (nI (us)))) 50 (upd (ar 50) (L) (nI (p)))) (L + 1) (wt w 2) (1) (us) (by omega)) gv_X10_189 gv_X10_189_n ⟨rfl, rfl⟩ (r_Ref C h) rfl hl.1 rfl (Nat.le_of_ble_eq_true rfl) dX10_readsPopular_106 ⟨Nat.le_of_ble_eq_true rfl, Nat.le_of_ble_eq_true rfl⟩ ⟨Nat.le_of_ble_eq_true rfl, Nat.le_of_ble_eq_true rfl⟩) (fun v_106 sc_106 ar_106 H locs p_106 h => ?_)
  have h : hH z v (va_up sc 29 (nI (us + 1))) (inA (va_up (va_up ar 46 (upd (ar 46) (L) (nI (us)))) 50 (upd (ar 50) (L) (nI (p)))) (L + 1) (wt w 2) (1) (us)) s H locs := uEq p_106 h
  refine lv_goto (tgt := 435) hx hb dX10_readsPopular_109 (by decide) ?_
  exact rV C hr hlk h dX10_readsPopular_435 (Nat.le_of_ble_eq_true rfl) (Nat.le_of_ble_eq_true rfl) (rfl)
set_option maxHeartbeats 4000000 in
set_option maxRecDepth 100000 in
theorem r_pop1 (l : Launch) (z : bZ) (v : bV) (sc : Nat → Int32) (ar : Nat → Nat → Int32) (K L w cnt us p : Nat) (wt : Nat → Nat → Nat) (dp : Nat → Nat) (r0 b0 : Nat) (kI : Int32) (hK4 : K ≤ 40) (hRW : RW wt dp K ar) (hw : w < K) (hw2 : wt w 0 = 2) (hL : L < 7) (g42 : ar 42 L = nI w) (g43 : ar 43 L = nI cnt) (hus : sc 29 = nI us) (hp : sc 32 = nI p) (g46 : ar 46 L = nI r0) (hr0 : r0 < 40000) (g50 : ar 50 L = nI b0) (gk : ar 36 r0 = kI) : Met l yX10_readsPopular (Cond.code yX10_readsPopular cX10_readsPopular 9 none :: uW) { frames := 1, cells := 0, slots := 0, locals := 24 } (pC z v sc ar [.ref (zad z 27), .int (nI (L)), .int (nI (1))]) (qV z (fun u => ((kI < 0 ∨ nI (wt w 1) < kI) ∧ u = (v, va_up (va_up sc 33 (nI 3)) 34 (nI b0), ar)) ∨ (∃ k, k ≤ wt w 1 ∧ kI = nI k ∧ u = (v, va_up sc 29 (nI (us + k)), inA (va_up ar 47 (upd (ar 47) L (nI us))) (L + 1) (wt w 2) k us)))) 0 0 (zA z) := by
  refine eM (by decide) (Nat.le_of_ble_eq_true rfl) ?_
  intro pP eE s mM below meth cC ls C hr hlk h hl
  have hx := C.1.1
  have hb := C.1.2.1
  have hl : lv_has ls 9 [(0, .ref (zad z 27)), (1, .int (nI (L))), (2, .int (nI (1)))] := hl
  obtain ⟨⟨hm1, hm5⟩, -⟩ := popOK (hRW w hw).2.2.2.2.2.2 hw2
  refine lv_aload_n hx hb dX10_readsPopular_0 rfl (lv_at hl 0 rfl) ?_
  refine rg_X10_66 C h dX10_readsPopular_1 ?_
  refine lv_iload_n hx hb dX10_readsPopular_4 rfl (lv_at hl 1 rfl) ?_
  refine ldA 42 rfl (j := L) (show L < 8 by omega) (by decide) C h dX10_readsPopular_5 ?_
  refine tI (y := nI (w)) g42 ?_
  refine lv_istore_n (lv' := [(3, .int (nI (w))), (0, .ref (zad z 27)), (1, .int (nI (L))), (2, .int (nI (1)))]) hx hb dX10_readsPopular_6 rfl hl (by decide) rfl (fun ls hl => ?_)
  refine lv_aload_n hx hb dX10_readsPopular_7 rfl (lv_at hl 1 rfl) ?_
  refine rg_X10_69 C h dX10_readsPopular_8 ?_
  refine lv_iload_n hx hb dX10_readsPopular_11 rfl (lv_at hl 2 rfl) ?_
  refine ldA 43 rfl (j := L) (show L < 8 by omega) (by decide) C h dX10_readsPopular_12 ?_
  refine tI (y := nI (cnt)) g43 ?_
  refine lv_istore (lv' := [(4, .int (nI (cnt))), (3, .int (nI (w))), (0, .ref (zad z 27)), (1, .int (nI (L))), (2, .int (nI (1)))]) hx hb dX10_readsPopular_13 hl (by decide) rfl (fun ls hl => ?_)
  refine lv_iload_n hx hb dX10_readsPopular_15 rfl (lv_at hl 4 rfl) ?_
  refine zN_le (tgt := 33) (a := 1) C (by decide) dX10_readsPopular_16 (by decide) (fun q => absurd q (by decide)) (fun _ => ?_)
  refine lv_aload_n hx hb dX10_readsPopular_19 rfl (lv_at hl 2 rfl) ?_
  refine rg_X10_48 C h dX10_readsPopular_20 ?_
  refine lv_aload_n hx hb dX10_readsPopular_23 rfl (lv_at hl 2 rfl) ?_
  refine rg_X10_78 C h dX10_readsPopular_24 ?_
  refine lv_iload_n hx hb dX10_readsPopular_27 rfl (lv_at hl 3 rfl) ?_
  refine ldA 46 rfl (j := L) (show L < 8 by omega) (by decide) C h dX10_readsPopular_28 ?_
  refine tI (y := nI (r0)) g46 ?_
  refine ldA 36 rfl (j := r0) (show r0 < 40000 by omega) (by decide) C h dX10_readsPopular_29 ?_
  refine tI (y := kI) gk ?_
  refine lv_goto (tgt := 34) hx hb dX10_readsPopular_30 (by decide) ?_
  refine lv_istore (lv' := [(5, .int (kI)), (4, .int (nI (cnt))), (3, .int (nI (w))), (0, .ref (zad z 27)), (1, .int (nI (L))), (2, .int (nI (1)))]) hx hb dX10_readsPopular_34 hl (by decide) rfl (fun ls hl => ?_)
  refine lv_iload_n hx hb dX10_readsPopular_36 rfl (lv_at hl 5 rfl) ?_
  refine lv_tableIn (tgt := 112) (off := 75) hx hb dX10_readsPopular_37 (by decide) (by decide) (by decide) (by decide) ?_
  refine lv_iload hx hb dX10_readsPopular_112 (lv_at hl 0 rfl) ?_
  refine lv_if_lt (tgt := 128) hx hb dX10_readsPopular_114 (by decide) (fun c_114 => ?_) (fun c_114 => ?_)
  · skip
    refine lv_aload_n hx hb dX10_readsPopular_128 rfl (lv_at hl 3 rfl) ?_
    refine lv_iconst (v := nI (3)) hx hb dX10_readsPopular_129 (by decide) ?_
    refine lv_aload_n hx hb dX10_readsPopular_130 rfl (lv_at hl 3 rfl) ?_
    refine rg_X10_90 C h dX10_readsPopular_131 ?_
    refine lv_iload_n hx hb dX10_readsPopular_134 rfl (lv_at hl 4 rfl) ?_
    refine ldA 50 rfl (j := L) (show L < 8 by omega) (by decide) C h dX10_readsPopular_135 ?_
    refine tI (y := nI (b0)) g50 ?_
    refine backV h (runV (As := [.int (nI (3)), .int (nI (b0))]) (rest := []) C h (r_fails l z v sc ar (nI 3) (nI b0)) gv_X10_180 gv_X10_180_n ⟨rfl, rfl⟩ (r_Ref C h) rfl hl.1 rfl (Nat.le_of_ble_eq_true rfl) dX10_readsPopular_136 ⟨Nat.le_of_ble_eq_true rfl, Nat.le_of_ble_eq_true rfl⟩ ⟨Nat.le_of_ble_eq_true rfl, Nat.le_of_ble_eq_true rfl⟩) (fun v_136 sc_136 ar_136 H locs p_136 h => ?_)
    have h : hH z v (va_up (va_up sc 33 (nI (3))) 34 (nI (b0))) ar s H locs := uEq p_136 h
    exact rV C hr hlk h dX10_readsPopular_139 (Nat.le_of_ble_eq_true rfl) (Nat.le_of_ble_eq_true rfl) (Or.inl ⟨Or.inl c_114, rfl⟩)
  · skip
    refine lv_iload hx hb dX10_readsPopular_117 (lv_at hl 0 rfl) ?_
    refine lv_aload_n hx hb dX10_readsPopular_119 rfl (lv_at hl 3 rfl) ?_
    refine rg_X10_13 C h dX10_readsPopular_120 ?_
    refine lv_iload_n hx hb dX10_readsPopular_123 rfl (lv_at hl 2 rfl) ?_
    refine ldA 29 rfl (j := w) (show w < 40 by omega) (by decide) C h dX10_readsPopular_124 ?_
    refine tI (y := nI (wt w 1)) (hRW w hw).2.1 ?_
    refine lv_icmp_le (tgt := 140) hx hb dX10_readsPopular_125 (by decide) (fun c_125 => ?_) (fun c_125 => ?_)
    · skip
      obtain ⟨k, hk, rfl⟩ := numIn (x := kI) (M := wt w 1) (by omega) c_114 (Int32.not_lt.mpr c_125)
      refine lv_aload_n hx hb dX10_readsPopular_140 rfl (lv_at hl 3 rfl) ?_
      refine rg_X10_81 C h dX10_readsPopular_141 ?_
      refine lv_iload_n hx hb dX10_readsPopular_144 rfl (lv_at hl 4 rfl) ?_
      refine lv_aload_n hx hb dX10_readsPopular_145 rfl (lv_at hl 3 rfl) ?_
      refine lv_iload hx hb dX10_readsPopular_146 (lv_at hl 0 rfl) ?_
      refine backI h (runV (As := [.int (nI (k))]) (rest := [.int (nI (L)), .ref (zad z 47)]) C h (r_room l z v sc ar us k hus) gv_X10_199 gv_X10_199_n ⟨rfl, rfl⟩ (r_Ref C h) rfl hl.1 rfl (Nat.le_of_ble_eq_true rfl) dX10_readsPopular_148 ⟨Nat.le_of_ble_eq_true rfl, Nat.le_of_ble_eq_true rfl⟩ ⟨Nat.le_of_ble_eq_true rfl, Nat.le_of_ble_eq_true rfl⟩) (fun r_148 v_148 sc_148 ar_148 H locs p_148 h => ?_)
      have h : hH z v (va_up sc 29 (nI (us + k))) ar s H locs := uEq p_148.2 h
      refine tI (y := nI (us)) p_148.1 ?_
      refine stA 47 rfl (j := L) (x := nI (us)) (show L < 8 by omega) (by decide) C h dX10_readsPopular_151 (fun H locs h => ?_)
      refine lv_aload_n hx hb dX10_readsPopular_152 rfl (lv_at hl 3 rfl) ?_
      refine lv_iload_n hx hb dX10_readsPopular_153 rfl (lv_at hl 4 rfl) ?_
      refine lv_iconst (v := nI (1)) hx hb dX10_readsPopular_154 (by decide) ?_
      refine lv_iadd hx hb dX10_readsPopular_155 ?_
      refine tI (y := nI (L + 1)) (nI_add _ _) ?_
      refine lv_aload_n hx hb dX10_readsPopular_156 rfl (lv_at hl 3 rfl) ?_
      refine rg_X10_16 C h dX10_readsPopular_157 ?_
      refine lv_iload_n hx hb dX10_readsPopular_160 rfl (lv_at hl 2 rfl) ?_
      refine ldA 30 rfl (j := w) (show w < 40 by omega) (by decide) C h dX10_readsPopular_161 ?_
      refine tI (y := nI (wt w 2)) (hRW w hw).2.2.1 ?_
      refine lv_iload hx hb dX10_readsPopular_162 (lv_at hl 0 rfl) ?_
      refine lv_aload_n hx hb dX10_readsPopular_164 rfl (lv_at hl 3 rfl) ?_
      refine rg_X10_81 C h dX10_readsPopular_165 ?_
      refine lv_iload_n hx hb dX10_readsPopular_168 rfl (lv_at hl 4 rfl) ?_
      refine ldA 47 rfl (j := L) (show L < 8 by omega) (by decide) C h dX10_readsPopular_169 ?_
      refine tI (y := nI (us)) (by show upd (ar 47) L (nI us) L = _; rw [pk_us]) ?_
      refine backV h (runV (As := [.int (nI (L + 1)), .int (nI (wt w 2)), .int (nI (k)), .int (nI (us))]) (rest := []) C h (r_into l z v (va_up sc 29 (nI (us + k))) (va_up ar 47 (upd (ar 47) (L) (nI (us)))) (L + 1) (wt w 2) (k) (us) (by omega)) gv_X10_189 gv_X10_189_n ⟨rfl, rfl⟩ (r_Ref C h) rfl hl.1 rfl (Nat.le_of_ble_eq_true rfl) dX10_readsPopular_170 ⟨Nat.le_of_ble_eq_true rfl, Nat.le_of_ble_eq_true rfl⟩ ⟨Nat.le_of_ble_eq_true rfl, Nat.le_of_ble_eq_true rfl⟩) (fun v_170 sc_170 ar_170 H locs p_170 h => ?_)
      have h : hH z v (va_up sc 29 (nI (us + k))) (inA (va_up ar 47 (upd (ar 47) (L) (nI (us)))) (L + 1) (wt w 2) (k) (us)) s H locs := uEq p_170 h
      refine lv_goto (tgt := 435) hx hb dX10_readsPopular_173 (by decide) ?_
      exact rV C hr hlk h dX10_readsPopular_435 (Nat.le_of_ble_eq_true rfl) (Nat.le_of_ble_eq_true rfl) (Or.inr ⟨k, hk, rfl, rfl⟩)
    · skip
      refine lv_aload_n hx hb dX10_readsPopular_128 rfl (lv_at hl 3 rfl) ?_
      refine lv_iconst (v := nI (3)) hx hb dX10_readsPopular_129 (by decide) ?_
      refine lv_aload_n hx hb dX10_readsPopular_130 rfl (lv_at hl 3 rfl) ?_
      refine rg_X10_90 C h dX10_readsPopular_131 ?_
      refine lv_iload_n hx hb dX10_readsPopular_134 rfl (lv_at hl 4 rfl) ?_
      refine ldA 50 rfl (j := L) (show L < 8 by omega) (by decide) C h dX10_readsPopular_135 ?_
      refine tI (y := nI (b0)) g50 ?_
      refine backV h (runV (As := [.int (nI (3)), .int (nI (b0))]) (rest := []) C h (r_fails l z v sc ar (nI 3) (nI b0)) gv_X10_180 gv_X10_180_n ⟨rfl, rfl⟩ (r_Ref C h) rfl hl.1 rfl (Nat.le_of_ble_eq_true rfl) dX10_readsPopular_136 ⟨Nat.le_of_ble_eq_true rfl, Nat.le_of_ble_eq_true rfl⟩ ⟨Nat.le_of_ble_eq_true rfl, Nat.le_of_ble_eq_true rfl⟩) (fun v_136 sc_136 ar_136 H locs p_136 h => ?_)
      have h : hH z v (va_up (va_up sc 33 (nI (3))) 34 (nI (b0))) ar s H locs := uEq p_136 h
      exact rV C hr hlk h dX10_readsPopular_139 (Nat.le_of_ble_eq_true rfl) (Nat.le_of_ble_eq_true rfl) (Or.inl ⟨Or.inr (Int32.not_le.mp c_125), rfl⟩)
set_option maxHeartbeats 4000000 in
set_option maxRecDepth 100000 in
theorem r_pop2 (l : Launch) (z : bZ) (v : bV) (sc : Nat → Int32) (ar : Nat → Nat → Int32) (K L w cnt us p : Nat) (wt : Nat → Nat → Nat) (dp : Nat → Nat) (r0 : Nat) (hK4 : K ≤ 40) (hRW : RW wt dp K ar) (hw : w < K) (hw2 : wt w 0 = 2) (hL : L < 7) (g42 : ar 42 L = nI w) (g43 : ar 43 L = nI cnt) (hus : sc 29 = nI us) (hp : sc 32 = nI p) (g46 : ar 46 L = nI r0) (hr0 : r0 < 40000) : Met l yX10_readsPopular (Cond.code yX10_readsPopular cX10_readsPopular 9 none :: uW) { frames := 1, cells := 0, slots := 0, locals := 24 } (pC z v sc ar [.ref (zad z 27), .int (nI (L)), .int (nI (2))]) (qV z (fun u => u = (v, va_up sc 29 (nI (us + cnt)), inA (va_up (va_up ar 48 (upd (ar 48) L (nI us))) 50 (upd (ar 50) L (nI p))) (L + 1) (wt w 3) cnt us))) 0 0 (zA z) := by
  refine eM (by decide) (Nat.le_of_ble_eq_true rfl) ?_
  intro pP eE s mM below meth cC ls C hr hlk h hl
  have hx := C.1.1
  have hb := C.1.2.1
  have hl : lv_has ls 9 [(0, .ref (zad z 27)), (1, .int (nI (L))), (2, .int (nI (2)))] := hl
  obtain ⟨⟨hm1, hm5⟩, -⟩ := popOK (hRW w hw).2.2.2.2.2.2 hw2
  refine lv_aload_n hx hb dX10_readsPopular_0 rfl (lv_at hl 0 rfl) ?_
  refine rg_X10_66 C h dX10_readsPopular_1 ?_
  refine lv_iload_n hx hb dX10_readsPopular_4 rfl (lv_at hl 1 rfl) ?_
  refine ldA 42 rfl (j := L) (show L < 8 by omega) (by decide) C h dX10_readsPopular_5 ?_
  refine tI (y := nI (w)) g42 ?_
  refine lv_istore_n (lv' := [(3, .int (nI (w))), (0, .ref (zad z 27)), (1, .int (nI (L))), (2, .int (nI (2)))]) hx hb dX10_readsPopular_6 rfl hl (by decide) rfl (fun ls hl => ?_)
  refine lv_aload_n hx hb dX10_readsPopular_7 rfl (lv_at hl 1 rfl) ?_
  refine rg_X10_69 C h dX10_readsPopular_8 ?_
  refine lv_iload_n hx hb dX10_readsPopular_11 rfl (lv_at hl 2 rfl) ?_
  refine ldA 43 rfl (j := L) (show L < 8 by omega) (by decide) C h dX10_readsPopular_12 ?_
  refine tI (y := nI (cnt)) g43 ?_
  refine lv_istore (lv' := [(4, .int (nI (cnt))), (3, .int (nI (w))), (0, .ref (zad z 27)), (1, .int (nI (L))), (2, .int (nI (2)))]) hx hb dX10_readsPopular_13 hl (by decide) rfl (fun ls hl => ?_)
  refine lv_iload_n hx hb dX10_readsPopular_15 rfl (lv_at hl 4 rfl) ?_
  refine zN_le (tgt := 33) (a := 2) C (by decide) dX10_readsPopular_16 (by decide) (fun q => absurd q (by decide)) (fun _ => ?_)
  refine lv_aload_n hx hb dX10_readsPopular_19 rfl (lv_at hl 2 rfl) ?_
  refine rg_X10_48 C h dX10_readsPopular_20 ?_
  refine lv_aload_n hx hb dX10_readsPopular_23 rfl (lv_at hl 2 rfl) ?_
  refine rg_X10_78 C h dX10_readsPopular_24 ?_
  refine lv_iload_n hx hb dX10_readsPopular_27 rfl (lv_at hl 3 rfl) ?_
  refine ldA 46 rfl (j := L) (show L < 8 by omega) (by decide) C h dX10_readsPopular_28 ?_
  refine tI (y := nI (r0)) g46 ?_
  refine ldA 36 rfl (j := r0) (show r0 < 40000 by omega) (by decide) C h dX10_readsPopular_29 ?_
  refine tI (y := ar 36 r0) rfl ?_
  refine lv_goto (tgt := 34) hx hb dX10_readsPopular_30 (by decide) ?_
  refine lv_istore (lv' := [(5, .int (ar 36 r0)), (4, .int (nI (cnt))), (3, .int (nI (w))), (0, .ref (zad z 27)), (1, .int (nI (L))), (2, .int (nI (2)))]) hx hb dX10_readsPopular_34 hl (by decide) rfl (fun ls hl => ?_)
  refine lv_iload_n hx hb dX10_readsPopular_36 rfl (lv_at hl 5 rfl) ?_
  refine lv_tableIn (tgt := 176) (off := 139) hx hb dX10_readsPopular_37 (by decide) (by decide) (by decide) (by decide) ?_
  refine lv_aload_n hx hb dX10_readsPopular_176 rfl (lv_at hl 3 rfl) ?_
  refine rg_X10_84 C h dX10_readsPopular_177 ?_
  refine lv_iload_n hx hb dX10_readsPopular_180 rfl (lv_at hl 4 rfl) ?_
  refine lv_aload_n hx hb dX10_readsPopular_181 rfl (lv_at hl 3 rfl) ?_
  refine lv_iload hx hb dX10_readsPopular_182 (lv_at hl 1 rfl) ?_
  refine backI h (runV (As := [.int (nI (cnt))]) (rest := [.int (nI (L)), .ref (zad z 48)]) C h (r_room l z v sc ar us (cnt) hus) gv_X10_199 gv_X10_199_n ⟨rfl, rfl⟩ (r_Ref C h) rfl hl.1 rfl (Nat.le_of_ble_eq_true rfl) dX10_readsPopular_184 ⟨Nat.le_of_ble_eq_true rfl, Nat.le_of_ble_eq_true rfl⟩ ⟨Nat.le_of_ble_eq_true rfl, Nat.le_of_ble_eq_true rfl⟩) (fun r_184 v_184 sc_184 ar_184 H locs p_184 h => ?_)
  have h : hH z v (va_up sc 29 (nI (us + cnt))) ar s H locs := uEq p_184.2 h
  refine tI (y := nI (us)) p_184.1 ?_
  refine stA 48 rfl (j := L) (x := nI (us)) (show L < 8 by omega) (by decide) C h dX10_readsPopular_187 (fun H locs h => ?_)
  refine lv_aload_n hx hb dX10_readsPopular_188 rfl (lv_at hl 3 rfl) ?_
  refine rg_X10_90 C h dX10_readsPopular_189 ?_
  refine lv_iload_n hx hb dX10_readsPopular_192 rfl (lv_at hl 4 rfl) ?_
  refine lv_aload_n hx hb dX10_readsPopular_193 rfl (lv_at hl 3 rfl) ?_
  refine rg_X10_177 C h dX10_readsPopular_194 ?_
  refine tI (y := nI (p)) hp ?_
  refine stA 50 rfl (j := L) (x := nI (p)) (show L < 8 by omega) (by decide) C h dX10_readsPopular_197 (fun H locs h => ?_)
  refine lv_aload_n hx hb dX10_readsPopular_198 rfl (lv_at hl 3 rfl) ?_
  refine lv_iload_n hx hb dX10_readsPopular_199 rfl (lv_at hl 4 rfl) ?_
  refine lv_iconst (v := nI (1)) hx hb dX10_readsPopular_200 (by decide) ?_
  refine lv_iadd hx hb dX10_readsPopular_201 ?_
  refine tI (y := nI (L + 1)) (nI_add _ _) ?_
  refine lv_aload_n hx hb dX10_readsPopular_202 rfl (lv_at hl 3 rfl) ?_
  refine rg_X10_19 C h dX10_readsPopular_203 ?_
  refine lv_iload_n hx hb dX10_readsPopular_206 rfl (lv_at hl 2 rfl) ?_
  refine ldA 31 rfl (j := w) (show w < 40 by omega) (by decide) C h dX10_readsPopular_207 ?_
  refine tI (y := nI (wt w 3)) (hRW w hw).2.2.2.1 ?_
  refine lv_iload hx hb dX10_readsPopular_208 (lv_at hl 1 rfl) ?_
  refine lv_aload_n hx hb dX10_readsPopular_210 rfl (lv_at hl 3 rfl) ?_
  refine rg_X10_84 C h dX10_readsPopular_211 ?_
  refine lv_iload_n hx hb dX10_readsPopular_214 rfl (lv_at hl 4 rfl) ?_
  refine ldA 48 rfl (j := L) (show L < 8 by omega) (by decide) C h dX10_readsPopular_215 ?_
  refine tI (y := nI (us)) (by show upd (ar 48) L (nI us) L = _; rw [pk_us]) ?_
  refine backV h (runV (As := [.int (nI (L + 1)), .int (nI (wt w 3)), .int (nI (cnt)), .int (nI (us))]) (rest := []) C h (r_into l z v (va_up sc 29 (nI (us + cnt))) (va_up (va_up ar 48 (upd (ar 48) (L) (nI (us)))) 50 (upd (ar 50) (L) (nI (p)))) (L + 1) (wt w 3) (cnt) (us) (by omega)) gv_X10_189 gv_X10_189_n ⟨rfl, rfl⟩ (r_Ref C h) rfl hl.1 rfl (Nat.le_of_ble_eq_true rfl) dX10_readsPopular_216 ⟨Nat.le_of_ble_eq_true rfl, Nat.le_of_ble_eq_true rfl⟩ ⟨Nat.le_of_ble_eq_true rfl, Nat.le_of_ble_eq_true rfl⟩) (fun v_216 sc_216 ar_216 H locs p_216 h => ?_)
  have h : hH z v (va_up sc 29 (nI (us + cnt))) (inA (va_up (va_up ar 48 (upd (ar 48) (L) (nI (us)))) 50 (upd (ar 50) (L) (nI (p)))) (L + 1) (wt w 3) (cnt) (us)) s H locs := uEq p_216 h
  refine lv_goto (tgt := 435) hx hb dX10_readsPopular_219 (by decide) ?_
  exact rV C hr hlk h dX10_readsPopular_435 (Nat.le_of_ble_eq_true rfl) (Nat.le_of_ble_eq_true rfl) (rfl)
set_option maxHeartbeats 4000000 in
set_option maxRecDepth 100000 in
theorem r_pop3 (l : Launch) (z : bZ) (v : bV) (sc : Nat → Int32) (ar : Nat → Nat → Int32) (K L w cnt us p : Nat) (wt : Nat → Nat → Nat) (dp : Nat → Nat) (r0 b0 k tk0 : Nat) (hK4 : K ≤ 40) (hRW : RW wt dp K ar) (hw : w < K) (hw2 : wt w 0 = 2) (hL : L < 7) (g42 : ar 42 L = nI w) (g43 : ar 43 L = nI cnt) (hus : sc 29 = nI us) (hp : sc 32 = nI p) (g46 : ar 46 L = nI r0) (hr0 : r0 < 40000) (g50 : ar 50 L = nI b0) (gk : ar 36 r0 = nI k) (hk : k ≤ 50) (g48 : ar 48 L = nI tk0) (htk : tk0 + cnt ≤ 40000) (hc4 : cnt ≤ 400) : Met l yX10_readsPopular (Cond.code yX10_readsPopular cX10_readsPopular 9 none :: uW) { frames := 1, cells := 0, slots := 0, locals := 24 } (pC z v sc ar [.ref (zad z 27), .int (nI (L)), .int (nI (3))]) (qV z (fun u => (cO k (rowL (ar 36) tk0 cnt) = none ∧ u = (v, va_up (va_up sc 33 (nI 3)) 34 (nI b0), ar)) ∨ (∃ o, cO k (rowL (ar 36) tk0 cnt) = some o ∧ u = (v, va_up sc 29 (nI (us + o)), inA (va_up ar 49 (upd (ar 49) L (nI us))) (L + 1) (wt w 4) o us)))) 0 0 (zA z) := by
  refine eM (by decide) (Nat.le_of_ble_eq_true rfl) ?_
  intro pP eE s mM below meth cC ls C hr hlk h hl
  have hx := C.1.1
  have hb := C.1.2.1
  have hl : lv_has ls 9 [(0, .ref (zad z 27)), (1, .int (nI (L))), (2, .int (nI (3)))] := hl
  obtain ⟨⟨hm1, hm5⟩, -⟩ := popOK (hRW w hw).2.2.2.2.2.2 hw2
  refine lv_aload_n hx hb dX10_readsPopular_0 rfl (lv_at hl 0 rfl) ?_
  refine rg_X10_66 C h dX10_readsPopular_1 ?_
  refine lv_iload_n hx hb dX10_readsPopular_4 rfl (lv_at hl 1 rfl) ?_
  refine ldA 42 rfl (j := L) (show L < 8 by omega) (by decide) C h dX10_readsPopular_5 ?_
  refine tI (y := nI (w)) g42 ?_
  refine lv_istore_n (lv' := [(3, .int (nI (w))), (0, .ref (zad z 27)), (1, .int (nI (L))), (2, .int (nI (3)))]) hx hb dX10_readsPopular_6 rfl hl (by decide) rfl (fun ls hl => ?_)
  refine lv_aload_n hx hb dX10_readsPopular_7 rfl (lv_at hl 1 rfl) ?_
  refine rg_X10_69 C h dX10_readsPopular_8 ?_
  refine lv_iload_n hx hb dX10_readsPopular_11 rfl (lv_at hl 2 rfl) ?_
  refine ldA 43 rfl (j := L) (show L < 8 by omega) (by decide) C h dX10_readsPopular_12 ?_
  refine tI (y := nI (cnt)) g43 ?_
  refine lv_istore (lv' := [(4, .int (nI (cnt))), (3, .int (nI (w))), (0, .ref (zad z 27)), (1, .int (nI (L))), (2, .int (nI (3)))]) hx hb dX10_readsPopular_13 hl (by decide) rfl (fun ls hl => ?_)
  refine lv_iload_n hx hb dX10_readsPopular_15 rfl (lv_at hl 4 rfl) ?_
  refine zN_le (tgt := 33) (a := 3) C (by decide) dX10_readsPopular_16 (by decide) (fun q => absurd q (by decide)) (fun _ => ?_)
  refine lv_aload_n hx hb dX10_readsPopular_19 rfl (lv_at hl 2 rfl) ?_
  refine rg_X10_48 C h dX10_readsPopular_20 ?_
  refine lv_aload_n hx hb dX10_readsPopular_23 rfl (lv_at hl 2 rfl) ?_
  refine rg_X10_78 C h dX10_readsPopular_24 ?_
  refine lv_iload_n hx hb dX10_readsPopular_27 rfl (lv_at hl 3 rfl) ?_
  refine ldA 46 rfl (j := L) (show L < 8 by omega) (by decide) C h dX10_readsPopular_28 ?_
  refine tI (y := nI (r0)) g46 ?_
  refine ldA 36 rfl (j := r0) (show r0 < 40000 by omega) (by decide) C h dX10_readsPopular_29 ?_
  refine tI (y := nI (k)) gk ?_
  refine lv_goto (tgt := 34) hx hb dX10_readsPopular_30 (by decide) ?_
  refine lv_istore (lv' := [(5, .int (nI (k))), (4, .int (nI (cnt))), (3, .int (nI (w))), (0, .ref (zad z 27)), (1, .int (nI (L))), (2, .int (nI (3)))]) hx hb dX10_readsPopular_34 hl (by decide) rfl (fun ls hl => ?_)
  refine lv_iload_n hx hb dX10_readsPopular_36 rfl (lv_at hl 5 rfl) ?_
  refine lv_tableIn (tgt := 222) (off := 185) hx hb dX10_readsPopular_37 (by decide) (by decide) (by decide) (by decide) ?_
  refine lv_iconst (v := nI (0)) hx hb dX10_readsPopular_222 (by decide) ?_
  refine lv_istore (lv' := [(6, .int (nI (0))), (5, .int (nI (k))), (4, .int (nI (cnt))), (3, .int (nI (w))), (0, .ref (zad z 27)), (1, .int (nI (L))), (2, .int (nI (3)))]) hx hb dX10_readsPopular_223 hl (by decide) rfl (fun ls hl => ?_)
  refine lv_iconst (v := nI (0)) hx hb dX10_readsPopular_225 (by decide) ?_
  refine lv_istore (lv' := [(7, .int (nI (0))), (6, .int (nI (0))), (5, .int (nI (k))), (4, .int (nI (cnt))), (3, .int (nI (w))), (0, .ref (zad z 27)), (1, .int (nI (L))), (2, .int (nI (3)))]) hx hb dX10_readsPopular_226 hl (by decide) rfl (fun ls hl => ?_)
  refine lpW2 (fun (i : Nat) (nn : Nat) (H : Heap) (locs : List Loc) (ls : Array Slot) => (i ≤ cnt) ∧ (nn ≤ i) ∧ (cO k (rowL (ar 36) tk0 cnt) = (cO k (rowL (ar 36) (tk0 + i) (cnt - i))).map (fun q => q + nn)) ∧ hH z v sc ar s H locs ∧ lv_has ls 9 [(0, .ref (zad z 27)), (1, .int (nI (L))), (3, .int (nI (w))), (4, .int (nI (cnt))), (5, .int (nI (k))), (6, .int (nI (nn))), (7, .int (nI (i)))]) (fun (i : Nat) (nn : Nat) => cnt - i) (fun i nn ih_228 H locs ls hI => ?_) (0) (0) ⟨Nat.zero_le _, Nat.le_refl _, by cases cO k (rowL (ar 36) (tk0 + 0) (cnt - 0)) <;> simp, h, lv_sub hl [5, 6, 4, 3, 2, 1, 0] rfl⟩
  obtain ⟨h1, h2, h3, h, hl⟩ := hI
  refine lv_iload hx hb dX10_readsPopular_228 (lv_at hl 6 rfl) ?_
  refine lv_iload hx hb dX10_readsPopular_230 (lv_at hl 3 rfl) ?_
  refine jN_ge (tgt := 296) (a := i) (b := cnt) C (by omega) (by omega) dX10_readsPopular_232 (by decide) (fun c_232 => ?_) (fun c_232 => ?_)
  · skip
    refine lv_aload_n hx hb dX10_readsPopular_296 rfl (lv_at hl 0 rfl) ?_
    refine rg_X10_87 C h dX10_readsPopular_297 ?_
    refine lv_iload_n hx hb dX10_readsPopular_300 rfl (lv_at hl 1 rfl) ?_
    refine lv_aload_n hx hb dX10_readsPopular_301 rfl (lv_at hl 0 rfl) ?_
    refine lv_iload hx hb dX10_readsPopular_302 (lv_at hl 5 rfl) ?_
    refine backI h (runV (As := [.int (nI (nn))]) (rest := [.int (nI (L)), .ref (zad z 49)]) C h (r_room l z v sc ar us nn hus) gv_X10_199 gv_X10_199_n ⟨rfl, rfl⟩ (r_Ref C h) rfl hl.1 rfl (Nat.le_of_ble_eq_true rfl) dX10_readsPopular_304 ⟨Nat.le_of_ble_eq_true rfl, Nat.le_of_ble_eq_true rfl⟩ ⟨Nat.le_of_ble_eq_true rfl, Nat.le_of_ble_eq_true rfl⟩) (fun r_304 v_304 sc_304 ar_304 H locs p_304 h => ?_)
    have h : hH z v (va_up sc 29 (nI (us + nn))) ar s H locs := uEq p_304.2 h
    refine tI (y := nI (us)) p_304.1 ?_
    refine stA 49 rfl (j := L) (x := nI (us)) (show L < 8 by omega) (by decide) C h dX10_readsPopular_307 (fun H locs h => ?_)
    refine lv_aload_n hx hb dX10_readsPopular_308 rfl (lv_at hl 0 rfl) ?_
    refine lv_iload_n hx hb dX10_readsPopular_309 rfl (lv_at hl 1 rfl) ?_
    refine lv_iconst (v := nI (1)) hx hb dX10_readsPopular_310 (by decide) ?_
    refine lv_iadd hx hb dX10_readsPopular_311 ?_
    refine tI (y := nI (L + 1)) (nI_add _ _) ?_
    refine lv_aload_n hx hb dX10_readsPopular_312 rfl (lv_at hl 0 rfl) ?_
    refine rg_X10_22 C h dX10_readsPopular_313 ?_
    refine lv_iload_n hx hb dX10_readsPopular_316 rfl (lv_at hl 2 rfl) ?_
    refine ldA 32 rfl (j := w) (show w < 40 by omega) (by decide) C h dX10_readsPopular_317 ?_
    refine tI (y := nI (wt w 4)) (hRW w hw).2.2.2.2.1 ?_
    refine lv_iload hx hb dX10_readsPopular_318 (lv_at hl 5 rfl) ?_
    refine lv_aload_n hx hb dX10_readsPopular_320 rfl (lv_at hl 0 rfl) ?_
    refine rg_X10_87 C h dX10_readsPopular_321 ?_
    refine lv_iload_n hx hb dX10_readsPopular_324 rfl (lv_at hl 1 rfl) ?_
    refine ldA 49 rfl (j := L) (show L < 8 by omega) (by decide) C h dX10_readsPopular_325 ?_
    refine tI (y := nI (us)) (by show upd (ar 49) L (nI us) L = _; rw [pk_us]) ?_
    refine backV h (runV (As := [.int (nI (L + 1)), .int (nI (wt w 4)), .int (nI (nn)), .int (nI (us))]) (rest := []) C h (r_into l z v (va_up sc 29 (nI (us + nn))) (va_up ar 49 (upd (ar 49) (L) (nI (us)))) (L + 1) (wt w 4) (nn) (us) (by omega)) gv_X10_189 gv_X10_189_n ⟨rfl, rfl⟩ (r_Ref C h) rfl hl.1 rfl (Nat.le_of_ble_eq_true rfl) dX10_readsPopular_326 ⟨Nat.le_of_ble_eq_true rfl, Nat.le_of_ble_eq_true rfl⟩ ⟨Nat.le_of_ble_eq_true rfl, Nat.le_of_ble_eq_true rfl⟩) (fun v_326 sc_326 ar_326 H locs p_326 h => ?_)
    have h : hH z v (va_up sc 29 (nI (us + nn))) (inA (va_up ar 49 (upd (ar 49) (L) (nI (us)))) (L + 1) (wt w 4) (nn) (us)) s H locs := uEq p_326 h
    refine lv_goto (tgt := 435) hx hb dX10_readsPopular_329 (by decide) ?_
    exact rV C hr hlk h dX10_readsPopular_435 (Nat.le_of_ble_eq_true rfl) (Nat.le_of_ble_eq_true rfl) (Or.inr ⟨nn, by rw [h3, show cnt - i = 0 by omega]; simp [rowL, cO], rfl⟩)
  · skip
    refine lv_aload_n hx hb dX10_readsPopular_235 rfl (lv_at hl 0 rfl) ?_
    refine rg_X10_48 C h dX10_readsPopular_236 ?_
    refine lv_aload_n hx hb dX10_readsPopular_239 rfl (lv_at hl 0 rfl) ?_
    refine rg_X10_84 C h dX10_readsPopular_240 ?_
    refine lv_iload_n hx hb dX10_readsPopular_243 rfl (lv_at hl 1 rfl) ?_
    refine ldA 48 rfl (j := L) (show L < 8 by omega) (by decide) C h dX10_readsPopular_244 ?_
    refine tI (y := nI (tk0)) g48 ?_
    refine lv_iload hx hb dX10_readsPopular_245 (lv_at hl 6 rfl) ?_
    refine lv_iadd hx hb dX10_readsPopular_247 ?_
    refine tI (y := nI (tk0 + i)) (nI_add _ _) ?_
    refine ldA 36 rfl (j := tk0 + i) (show tk0 + i < 40000 by omega) (by decide) C h dX10_readsPopular_248 ?_
    refine tI (y := ar 36 (tk0 + i)) rfl ?_
    refine lv_istore (lv' := [(8, .int (ar 36 (tk0 + i))), (0, .ref (zad z 27)), (1, .int (nI (L))), (3, .int (nI (w))), (4, .int (nI (cnt))), (5, .int (nI (k))), (6, .int (nI (nn))), (7, .int (nI (i)))]) hx hb dX10_readsPopular_249 hl (by decide) rfl (fun ls hl => ?_)
    refine lv_iload hx hb dX10_readsPopular_251 (lv_at hl 0 rfl) ?_
    refine lv_if_lt (tgt := 263) hx hb dX10_readsPopular_253 (by decide) (fun c_253 => ?_) (fun c_253 => ?_)
    · skip
      refine lv_aload_n hx hb dX10_readsPopular_263 rfl (lv_at hl 1 rfl) ?_
      refine lv_iconst (v := nI (3)) hx hb dX10_readsPopular_264 (by decide) ?_
      refine lv_aload_n hx hb dX10_readsPopular_265 rfl (lv_at hl 1 rfl) ?_
      refine rg_X10_90 C h dX10_readsPopular_266 ?_
      refine lv_iload_n hx hb dX10_readsPopular_269 rfl (lv_at hl 2 rfl) ?_
      refine ldA 50 rfl (j := L) (show L < 8 by omega) (by decide) C h dX10_readsPopular_270 ?_
      refine tI (y := nI (b0)) g50 ?_
      refine backV h (runV (As := [.int (nI (3)), .int (nI (b0))]) (rest := []) C h (r_fails l z v sc ar (nI 3) (nI b0)) gv_X10_180 gv_X10_180_n ⟨rfl, rfl⟩ (r_Ref C h) rfl hl.1 rfl (Nat.le_of_ble_eq_true rfl) dX10_readsPopular_271 ⟨Nat.le_of_ble_eq_true rfl, Nat.le_of_ble_eq_true rfl⟩ ⟨Nat.le_of_ble_eq_true rfl, Nat.le_of_ble_eq_true rfl⟩) (fun v_271 sc_271 ar_271 H locs p_271 h => ?_)
      have h : hH z v (va_up (va_up sc 33 (nI (3))) 34 (nI (b0))) ar s H locs := uEq p_271 h
      exact rV C hr hlk h dX10_readsPopular_274 (Nat.le_of_ble_eq_true rfl) (Nat.le_of_ble_eq_true rfl) (Or.inl ⟨by rw [h3, rowL_step (by omega), cO_bad (Or.inl c_253)]; rfl, rfl⟩)
    · skip
      refine lv_iload hx hb dX10_readsPopular_256 (lv_at hl 0 rfl) ?_
      refine lv_iload hx hb dX10_readsPopular_258 (lv_at hl 5 rfl) ?_
      refine lv_icmp_le (tgt := 275) hx hb dX10_readsPopular_260 (by decide) (fun c_260 => ?_) (fun c_260 => ?_)
      · skip
        refine lv_iload hx hb dX10_readsPopular_275 (lv_at hl 6 rfl) ?_
        refine lv_iload hx hb dX10_readsPopular_277 (lv_at hl 0 rfl) ?_
        refine lv_if_ne (tgt := 286) hx hb dX10_readsPopular_279 (by decide) (fun c_279 => ?_) (fun c_279 => ?_)
        · skip
          refine lv_iconst (v := nI (0)) hx hb dX10_readsPopular_286 (by decide) ?_
          refine lv_iadd hx hb dX10_readsPopular_287 ?_
          refine tI (y := nI (nn)) (nI_add _ _) ?_
          refine lv_istore (lv' := [(6, .int (nI (nn))), (8, .int (ar 36 (tk0 + i))), (0, .ref (zad z 27)), (1, .int (nI (L))), (3, .int (nI (w))), (4, .int (nI (cnt))), (5, .int (nI (k))), (7, .int (nI (i)))]) hx hb dX10_readsPopular_288 hl (by decide) rfl (fun ls hl => ?_)
          refine lv_iinc (v := nI (i + 1)) (lv' := [(7, .int (nI (i + 1))), (6, .int (nI (nn))), (8, .int (ar 36 (tk0 + i))), (0, .ref (zad z 27)), (1, .int (nI (L))), (3, .int (nI (w))), (4, .int (nI (cnt))), (5, .int (nI (k)))]) hx hb dX10_readsPopular_290 hl (k := 7) rfl (nN_inc _) (by decide) rfl (fun ls hl => ?_)
          refine lv_goto (tgt := 228) hx hb dX10_readsPopular_293 (by decide) ?_
          exact ih_228 (i + 1) (nn) (by omega) H locs ls ⟨by omega, by omega, by rw [h3, rowL_step (by omega), cO_more c_253 c_260 c_279, show cnt - i - 1 = cnt - (i + 1) by omega, show tk0 + i + 1 = tk0 + (i + 1) by omega], h, lv_sub hl [3, 4, 5, 6, 7, 1, 0] rfl⟩
        · skip
          refine lv_iconst (v := nI (1)) hx hb dX10_readsPopular_282 (by decide) ?_
          refine lv_goto (tgt := 287) hx hb dX10_readsPopular_283 (by decide) ?_
          refine lv_iadd hx hb dX10_readsPopular_287 ?_
          refine tI (y := nI (nn + 1)) (nI_add _ _) ?_
          refine lv_istore (lv' := [(6, .int (nI (nn + 1))), (8, .int (ar 36 (tk0 + i))), (0, .ref (zad z 27)), (1, .int (nI (L))), (3, .int (nI (w))), (4, .int (nI (cnt))), (5, .int (nI (k))), (7, .int (nI (i)))]) hx hb dX10_readsPopular_288 hl (by decide) rfl (fun ls hl => ?_)
          refine lv_iinc (v := nI (i + 1)) (lv' := [(7, .int (nI (i + 1))), (6, .int (nI (nn + 1))), (8, .int (ar 36 (tk0 + i))), (0, .ref (zad z 27)), (1, .int (nI (L))), (3, .int (nI (w))), (4, .int (nI (cnt))), (5, .int (nI (k)))]) hx hb dX10_readsPopular_290 hl (k := 7) rfl (nN_inc _) (by decide) rfl (fun ls hl => ?_)
          refine lv_goto (tgt := 228) hx hb dX10_readsPopular_293 (by decide) ?_
          exact ih_228 (i + 1) (nn + 1) (by omega) H locs ls ⟨by omega, by omega, by rw [h3, rowL_step (by omega), cO_zero c_253 c_260 c_279, show cnt - i - 1 = cnt - (i + 1) by omega, show tk0 + i + 1 = tk0 + (i + 1) by omega, Option.map_map]; congr 1; funext q; simp only [Function.comp]; omega, h, lv_sub hl [3, 4, 5, 6, 7, 1, 0] rfl⟩
      · skip
        refine lv_aload_n hx hb dX10_readsPopular_263 rfl (lv_at hl 1 rfl) ?_
        refine lv_iconst (v := nI (3)) hx hb dX10_readsPopular_264 (by decide) ?_
        refine lv_aload_n hx hb dX10_readsPopular_265 rfl (lv_at hl 1 rfl) ?_
        refine rg_X10_90 C h dX10_readsPopular_266 ?_
        refine lv_iload_n hx hb dX10_readsPopular_269 rfl (lv_at hl 2 rfl) ?_
        refine ldA 50 rfl (j := L) (show L < 8 by omega) (by decide) C h dX10_readsPopular_270 ?_
        refine tI (y := nI (b0)) g50 ?_
        refine backV h (runV (As := [.int (nI (3)), .int (nI (b0))]) (rest := []) C h (r_fails l z v sc ar (nI 3) (nI b0)) gv_X10_180 gv_X10_180_n ⟨rfl, rfl⟩ (r_Ref C h) rfl hl.1 rfl (Nat.le_of_ble_eq_true rfl) dX10_readsPopular_271 ⟨Nat.le_of_ble_eq_true rfl, Nat.le_of_ble_eq_true rfl⟩ ⟨Nat.le_of_ble_eq_true rfl, Nat.le_of_ble_eq_true rfl⟩) (fun v_271 sc_271 ar_271 H locs p_271 h => ?_)
        have h : hH z v (va_up (va_up sc 33 (nI (3))) 34 (nI (b0))) ar s H locs := uEq p_271 h
        exact rV C hr hlk h dX10_readsPopular_274 (Nat.le_of_ble_eq_true rfl) (Nat.le_of_ble_eq_true rfl) (Or.inl ⟨by rw [h3, rowL_step (by omega), cO_bad (Or.inr (Int32.not_le.mp c_260))]; rfl, rfl⟩)
set_option maxHeartbeats 4000000 in
set_option maxRecDepth 100000 in
theorem r_pop4 (l : Launch) (z : bZ) (v : bV) (sc : Nat → Int32) (ar : Nat → Nat → Int32) (K L w cnt us p : Nat) (wt : Nat → Nat → Nat) (dp : Nat → Nat) (r0 k tk0 o0 fv0 t0 : Nat) (hK4 : K ≤ 40) (hRW : RW wt dp K ar) (hw : w < K) (hw2 : wt w 0 = 2) (hL : L < 7) (g42 : ar 42 L = nI w) (g43 : ar 43 L = nI cnt) (g46 : ar 46 L = nI r0) (hr0 : r0 < 40000) (gk : ar 36 r0 = nI k) (hk : k ≤ 50) (g44 : ar 44 L = nI t0) (g47 : ar 47 L = nI fv0) (g48 : ar 48 L = nI tk0) (g49 : ar 49 L = nI o0) (hc4 : cnt ≤ 400) (htf : t0 + cnt ≤ fv0) (hft : fv0 + k ≤ tk0) (hto : tk0 + cnt ≤ o0) (ho : o0 + cnt ≤ 40000) (hf1 : 1 ≤ fv0) (hτ : ∀ i, i < cnt → ∃ τ, τ ≤ k ∧ ar 36 (tk0 + i) = nI τ) : Met l yX10_readsPopular (Cond.code yX10_readsPopular cX10_readsPopular 9 none :: uW) { frames := 0, cells := 0, slots := 0, locals := 0 } (pC z v sc ar [.ref (zad z 27), .int (nI (L)), .int (nI (4))]) (qV z (fun u => u = (v, sc, va_up ar 36 (wrR (ar 36) t0 (rpL (fun j => ar 36 (fv0 + j - 1)) (fun j => ar 36 (o0 + j)) 0 (rowL (ar 36) tk0 cnt)))))) 0 0 (zA z) := by
  refine eM (by decide) (Nat.le_of_ble_eq_true rfl) ?_
  intro pP eE s mM below meth cC ls C hr hlk h hl
  have hx := C.1.1
  have hb := C.1.2.1
  have hl : lv_has ls 9 [(0, .ref (zad z 27)), (1, .int (nI (L))), (2, .int (nI (4)))] := hl
  obtain ⟨⟨hm1, hm5⟩, -⟩ := popOK (hRW w hw).2.2.2.2.2.2 hw2
  refine lv_aload_n hx hb dX10_readsPopular_0 rfl (lv_at hl 0 rfl) ?_
  refine rg_X10_66 C h dX10_readsPopular_1 ?_
  refine lv_iload_n hx hb dX10_readsPopular_4 rfl (lv_at hl 1 rfl) ?_
  refine ldA 42 rfl (j := L) (show L < 8 by omega) (by decide) C h dX10_readsPopular_5 ?_
  refine tI (y := nI (w)) g42 ?_
  refine lv_istore_n (lv' := [(3, .int (nI (w))), (0, .ref (zad z 27)), (1, .int (nI (L))), (2, .int (nI (4)))]) hx hb dX10_readsPopular_6 rfl hl (by decide) rfl (fun ls hl => ?_)
  refine lv_aload_n hx hb dX10_readsPopular_7 rfl (lv_at hl 1 rfl) ?_
  refine rg_X10_69 C h dX10_readsPopular_8 ?_
  refine lv_iload_n hx hb dX10_readsPopular_11 rfl (lv_at hl 2 rfl) ?_
  refine ldA 43 rfl (j := L) (show L < 8 by omega) (by decide) C h dX10_readsPopular_12 ?_
  refine tI (y := nI (cnt)) g43 ?_
  refine lv_istore (lv' := [(4, .int (nI (cnt))), (3, .int (nI (w))), (0, .ref (zad z 27)), (1, .int (nI (L))), (2, .int (nI (4)))]) hx hb dX10_readsPopular_13 hl (by decide) rfl (fun ls hl => ?_)
  refine lv_iload_n hx hb dX10_readsPopular_15 rfl (lv_at hl 4 rfl) ?_
  refine zN_le (tgt := 33) (a := 4) C (by decide) dX10_readsPopular_16 (by decide) (fun q => absurd q (by decide)) (fun _ => ?_)
  refine lv_aload_n hx hb dX10_readsPopular_19 rfl (lv_at hl 2 rfl) ?_
  refine rg_X10_48 C h dX10_readsPopular_20 ?_
  refine lv_aload_n hx hb dX10_readsPopular_23 rfl (lv_at hl 2 rfl) ?_
  refine rg_X10_78 C h dX10_readsPopular_24 ?_
  refine lv_iload_n hx hb dX10_readsPopular_27 rfl (lv_at hl 3 rfl) ?_
  refine ldA 46 rfl (j := L) (show L < 8 by omega) (by decide) C h dX10_readsPopular_28 ?_
  refine tI (y := nI (r0)) g46 ?_
  refine ldA 36 rfl (j := r0) (show r0 < 40000 by omega) (by decide) C h dX10_readsPopular_29 ?_
  refine tI (y := nI (k)) gk ?_
  refine lv_goto (tgt := 34) hx hb dX10_readsPopular_30 (by decide) ?_
  refine lv_istore (lv' := [(5, .int (nI (k))), (4, .int (nI (cnt))), (3, .int (nI (w))), (0, .ref (zad z 27)), (1, .int (nI (L))), (2, .int (nI (4)))]) hx hb dX10_readsPopular_34 hl (by decide) rfl (fun ls hl => ?_)
  refine lv_iload_n hx hb dX10_readsPopular_36 rfl (lv_at hl 5 rfl) ?_
  refine lv_tableOut (tgt := 332) hx hb dX10_readsPopular_37 (by decide) (by decide) ?_
  refine lv_aload_n hx hb dX10_readsPopular_332 rfl (lv_at hl 3 rfl) ?_
  refine rg_X10_87 C h dX10_readsPopular_333 ?_
  refine lv_iload_n hx hb dX10_readsPopular_336 rfl (lv_at hl 4 rfl) ?_
  refine ldA 49 rfl (j := L) (show L < 8 by omega) (by decide) C h dX10_readsPopular_337 ?_
  refine tI (y := nI (o0)) g49 ?_
  refine lv_istore (lv' := [(6, .int (nI (o0))), (5, .int (nI (k))), (4, .int (nI (cnt))), (3, .int (nI (w))), (0, .ref (zad z 27)), (1, .int (nI (L))), (2, .int (nI (4)))]) hx hb dX10_readsPopular_338 hl (by decide) rfl (fun ls hl => ?_)
  refine lv_iconst (v := nI (0)) hx hb dX10_readsPopular_340 (by decide) ?_
  refine lv_istore (lv' := [(7, .int (nI (0))), (6, .int (nI (o0))), (5, .int (nI (k))), (4, .int (nI (cnt))), (3, .int (nI (w))), (0, .ref (zad z 27)), (1, .int (nI (L))), (2, .int (nI (4)))]) hx hb dX10_readsPopular_341 hl (by decide) rfl (fun ls hl => ?_)
  refine lpW3 (fun (i : Nat) (qn : Nat) (xs : List Int32) (H : Heap) (locs : List Loc) (ls : Array Slot) => (i ≤ cnt) ∧ (qn ≤ i) ∧ (xs.length = i) ∧ (rpL (fun j => ar 36 (fv0 + j - 1)) (fun j => ar 36 (o0 + j)) 0 (rowL (ar 36) tk0 cnt) = xs ++ rpL (fun j => ar 36 (fv0 + j - 1)) (fun j => ar 36 (o0 + j)) qn (rowL (ar 36) (tk0 + i) (cnt - i))) ∧ hH z v sc (va_up ar 36 (wrR (ar 36) t0 xs)) s H locs ∧ lv_has ls 9 [(0, .ref (zad z 27)), (1, .int (nI (L))), (3, .int (nI (w))), (4, .int (nI (cnt))), (6, .int (nI (o0 + qn))), (7, .int (nI (i)))]) (fun (i : Nat) (qn : Nat) (xs : List Int32) => cnt - i) (fun i qn xs ih_343 H locs ls hI => ?_) (0) (0) ([]) ⟨Nat.zero_le _, Nat.le_refl _, rfl, rfl, (by rw [wrR_nil, va_us]; exact h), lv_sub hl [5, 6, 4, 3, 1, 0] rfl⟩
  obtain ⟨h1, h2, hxl, h3, h, hl⟩ := hI
  refine lv_iload hx hb dX10_readsPopular_343 (lv_at hl 5 rfl) ?_
  refine lv_iload hx hb dX10_readsPopular_345 (lv_at hl 3 rfl) ?_
  refine jN_ge (tgt := 432) (a := i) (b := cnt) C (by omega) (by omega) dX10_readsPopular_347 (by decide) (fun c_347 => ?_) (fun c_347 => ?_)
  · skip
    refine lv_goto (tgt := 435) hx hb dX10_readsPopular_432 (by decide) ?_
    exact rV C hr hlk h dX10_readsPopular_435 (Nat.le_of_ble_eq_true rfl) (Nat.le_of_ble_eq_true rfl) (by rw [h3, show cnt - i = 0 by omega]; simp [rowL, rpL])
  · skip
    obtain ⟨τ, hτk, htq⟩ := hτ i (by omega)
    refine lv_aload_n hx hb dX10_readsPopular_350 rfl (lv_at hl 0 rfl) ?_
    refine rg_X10_48 C h dX10_readsPopular_351 ?_
    refine lv_aload_n hx hb dX10_readsPopular_354 rfl (lv_at hl 0 rfl) ?_
    refine rg_X10_84 C h dX10_readsPopular_355 ?_
    refine lv_iload_n hx hb dX10_readsPopular_358 rfl (lv_at hl 1 rfl) ?_
    refine ldA 48 rfl (j := L) (show L < 8 by omega) (by decide) C h dX10_readsPopular_359 ?_
    refine tI (y := nI (tk0)) g48 ?_
    refine lv_iload hx hb dX10_readsPopular_360 (lv_at hl 5 rfl) ?_
    refine lv_iadd hx hb dX10_readsPopular_362 ?_
    refine tI (y := nI (tk0 + i)) (nI_add _ _) ?_
    refine ldA 36 rfl (j := tk0 + i) (show tk0 + i < 40000 by omega) (by decide) C h dX10_readsPopular_363 ?_
    refine tI (y := nI (τ)) (by show wrR (ar 36) t0 xs (tk0 + i) = _; rw [wrR_hi (by omega)]; exact htq) ?_
    refine lv_istore (lv' := [(8, .int (nI (τ))), (0, .ref (zad z 27)), (1, .int (nI (L))), (3, .int (nI (w))), (4, .int (nI (cnt))), (6, .int (nI (o0 + qn))), (7, .int (nI (i)))]) hx hb dX10_readsPopular_364 hl (by decide) rfl (fun ls hl => ?_)
    refine lv_aload_n hx hb dX10_readsPopular_366 rfl (lv_at hl 1 rfl) ?_
    refine rg_X10_48 C h dX10_readsPopular_367 ?_
    refine lv_aload_n hx hb dX10_readsPopular_370 rfl (lv_at hl 1 rfl) ?_
    refine rg_X10_72 C h dX10_readsPopular_371 ?_
    refine lv_iload_n hx hb dX10_readsPopular_374 rfl (lv_at hl 2 rfl) ?_
    refine ldA 44 rfl (j := L) (show L < 8 by omega) (by decide) C h dX10_readsPopular_375 ?_
    refine tI (y := nI (t0)) g44 ?_
    refine lv_iload hx hb dX10_readsPopular_376 (lv_at hl 6 rfl) ?_
    refine lv_iadd hx hb dX10_readsPopular_378 ?_
    refine tI (y := nI (t0 + i)) (nI_add _ _) ?_
    refine lv_iload hx hb dX10_readsPopular_379 (lv_at hl 0 rfl) ?_
    refine zN_ne (tgt := 394) (a := τ) C (by omega) dX10_readsPopular_381 (by decide) (fun c_381 => ?_) (fun c_381 => ?_)
    · skip
      refine lv_aload_n hx hb dX10_readsPopular_394 rfl (lv_at hl 1 rfl) ?_
      refine rg_X10_48 C h dX10_readsPopular_395 ?_
      refine lv_aload_n hx hb dX10_readsPopular_398 rfl (lv_at hl 1 rfl) ?_
      refine rg_X10_81 C h dX10_readsPopular_399 ?_
      refine lv_iload_n hx hb dX10_readsPopular_402 rfl (lv_at hl 2 rfl) ?_
      refine ldA 47 rfl (j := L) (show L < 8 by omega) (by decide) C h dX10_readsPopular_403 ?_
      refine tI (y := nI (fv0)) g47 ?_
      refine lv_iload hx hb dX10_readsPopular_404 (lv_at hl 0 rfl) ?_
      refine lv_iadd hx hb dX10_readsPopular_406 ?_
      refine tI (y := nI (fv0 + τ)) (nI_add _ _) ?_
      refine lv_iconst (v := nI (1)) hx hb dX10_readsPopular_407 (by decide) ?_
      refine lv_isub hx hb dX10_readsPopular_408 ?_
      refine tI (y := nI (fv0 + τ - 1)) (pk_sub (by omega)) ?_
      refine ldA 36 rfl (j := fv0 + τ - 1) (show fv0 + τ - 1 < 40000 by omega) (by decide) C h dX10_readsPopular_409 ?_
      refine tI (y := ar 36 (fv0 + τ - 1)) (by show wrR (ar 36) t0 xs (fv0 + τ - 1) = _; rw [wrR_hi (by omega)]) ?_
      refine stA 36 rfl (j := t0 + i) (x := ar 36 (fv0 + τ - 1)) (show t0 + i < 40000 by omega) (by decide) C h dX10_readsPopular_410 (fun H locs h => ?_)
      have h := rr_put (by omega) h
      have h : hH z v sc (va_up ar 36 (wrR (ar 36) t0 (xs ++ [ar 36 (fv0 + τ - 1)]))) s H locs := h
      refine lv_iload hx hb dX10_readsPopular_411 (lv_at hl 5 rfl) ?_
      refine lv_iload hx hb dX10_readsPopular_413 (lv_at hl 0 rfl) ?_
      refine zN_ne (tgt := 422) (a := τ) C (by omega) dX10_readsPopular_415 (by decide) (fun c_415 => ?_) (fun c_415 => ?_)
      · skip
        refine lv_iconst (v := nI (0)) hx hb dX10_readsPopular_422 (by decide) ?_
        refine lv_iadd hx hb dX10_readsPopular_423 ?_
        refine tI (y := nI (o0 + qn)) (nI_add _ _) ?_
        refine lv_istore (lv' := [(6, .int (nI (o0 + qn))), (8, .int (nI (τ))), (0, .ref (zad z 27)), (1, .int (nI (L))), (3, .int (nI (w))), (4, .int (nI (cnt))), (7, .int (nI (i)))]) hx hb dX10_readsPopular_424 hl (by decide) rfl (fun ls hl => ?_)
        refine lv_iinc (v := nI (i + 1)) (lv' := [(7, .int (nI (i + 1))), (6, .int (nI (o0 + qn))), (8, .int (nI (τ))), (0, .ref (zad z 27)), (1, .int (nI (L))), (3, .int (nI (w))), (4, .int (nI (cnt)))]) hx hb dX10_readsPopular_426 hl (k := 6) rfl (nN_inc _) (by decide) rfl (fun ls hl => ?_)
        refine lv_goto (tgt := 343) hx hb dX10_readsPopular_429 (by decide) ?_
        exact ih_343 (i + 1) (qn) (xs ++ [ar 36 (fv0 + τ - 1)]) (by omega) H locs ls ⟨by omega, by omega, by simp; omega, (by rw [h3, rowL_step (by omega), htq, show rpL (fun j => ar 36 (fv0 + j - 1)) (fun j => ar 36 (o0 + j)) qn (nI τ :: rowL (ar 36) (tk0 + i + 1) (cnt - i - 1)) = (fun j => ar 36 (fv0 + j - 1)) (nI τ).toNatClampNeg :: rpL (fun j => ar 36 (fv0 + j - 1)) (fun j => ar 36 (o0 + j)) qn (rowL (ar 36) (tk0 + i + 1) (cnt - i - 1)) from if_neg (nI_ne0 c_381 (by omega)), nI_clamp (by omega), show cnt - i - 1 = cnt - (i + 1) by omega, show tk0 + i + 1 = tk0 + (i + 1) by omega]; simp), h, lv_sub hl [3, 4, 5, 6, 1, 0] rfl⟩
      · skip
        omega
    · skip
      refine lv_aload_n hx hb dX10_readsPopular_384 rfl (lv_at hl 1 rfl) ?_
      refine rg_X10_48 C h dX10_readsPopular_385 ?_
      refine lv_iload hx hb dX10_readsPopular_388 (lv_at hl 5 rfl) ?_
      refine ldA 36 rfl (j := o0 + qn) (show o0 + qn < 40000 by omega) (by decide) C h dX10_readsPopular_390 ?_
      refine tI (y := ar 36 (o0 + qn)) (by show wrR (ar 36) t0 xs (o0 + qn) = _; rw [wrR_hi (by omega)]) ?_
      refine lv_goto (tgt := 410) hx hb dX10_readsPopular_391 (by decide) ?_
      refine stA 36 rfl (j := t0 + i) (x := ar 36 (o0 + qn)) (show t0 + i < 40000 by omega) (by decide) C h dX10_readsPopular_410 (fun H locs h => ?_)
      have h := rr_put (by omega) h
      have h : hH z v sc (va_up ar 36 (wrR (ar 36) t0 (xs ++ [ar 36 (o0 + qn)]))) s H locs := h
      refine lv_iload hx hb dX10_readsPopular_411 (lv_at hl 5 rfl) ?_
      refine lv_iload hx hb dX10_readsPopular_413 (lv_at hl 0 rfl) ?_
      refine zN_ne (tgt := 422) (a := τ) C (by omega) dX10_readsPopular_415 (by decide) (fun c_415 => ?_) (fun c_415 => ?_)
      · skip
        omega
      · skip
        refine lv_iconst (v := nI (1)) hx hb dX10_readsPopular_418 (by decide) ?_
        refine lv_goto (tgt := 423) hx hb dX10_readsPopular_419 (by decide) ?_
        refine lv_iadd hx hb dX10_readsPopular_423 ?_
        refine tI (y := nI (o0 + (qn + 1))) (by rw [nI_add, Nat.add_assoc]) ?_
        refine lv_istore (lv' := [(6, .int (nI (o0 + (qn + 1)))), (8, .int (nI (τ))), (0, .ref (zad z 27)), (1, .int (nI (L))), (3, .int (nI (w))), (4, .int (nI (cnt))), (7, .int (nI (i)))]) hx hb dX10_readsPopular_424 hl (by decide) rfl (fun ls hl => ?_)
        refine lv_iinc (v := nI (i + 1)) (lv' := [(7, .int (nI (i + 1))), (6, .int (nI (o0 + (qn + 1)))), (8, .int (nI (τ))), (0, .ref (zad z 27)), (1, .int (nI (L))), (3, .int (nI (w))), (4, .int (nI (cnt)))]) hx hb dX10_readsPopular_426 hl (k := 6) rfl (nN_inc _) (by decide) rfl (fun ls hl => ?_)
        refine lv_goto (tgt := 343) hx hb dX10_readsPopular_429 (by decide) ?_
        exact ih_343 (i + 1) (qn + 1) (xs ++ [ar 36 (o0 + qn)]) (by omega) H locs ls ⟨by omega, by omega, by simp; omega, (by rw [h3, rowL_step (by omega), htq, show rpL (fun j => ar 36 (fv0 + j - 1)) (fun j => ar 36 (o0 + j)) qn (nI τ :: rowL (ar 36) (tk0 + i + 1) (cnt - i - 1)) = (fun j => ar 36 (o0 + j)) qn :: rpL (fun j => ar 36 (fv0 + j - 1)) (fun j => ar 36 (o0 + j)) (qn + 1) (rowL (ar 36) (tk0 + i + 1) (cnt - i - 1)) from if_pos (by rw [c_381]; rfl), show cnt - i - 1 = cnt - (i + 1) by omega, show tk0 + i + 1 = tk0 + (i + 1) by omega]; simp), h, lv_sub hl [3, 4, 5, 6, 1, 0] rfl⟩
